set_option maxHeartbeats 4000000 in
set_option maxRecDepth 100000 in
theorem kFi_two (l : Launch) (dC : Nat → ClassId) (dI : Nat → Nat → Nat) (k : Nat → ClassId) (b P : Nat → Nat) (I : Nat → Nat → Int32) (D : Nat → Nat → UInt64) (sz : Nat) (t : Nat) (oc : Nat → Nat) (ht : t + 2 ≤ 400) (ho : ∀ j, j < 400 → I 1 j = nI (oc j) ∧ oc j < 256) : Met l yFi_two wFi_two ({ frames := 0, cells := 0, slots := 0, locals := 0 }) (va_Pc [.ref (b 1), .int (nI t)] (ct_pre (dC, dI) (de_ty k) (fun _ => True) (wd k b P I D) sz)) (va_Qi (fun r (_ : Unit) => r = nI (nu oc t 2)) (fun u t => ct_at (dC, dI) (va_A (wd k b P I D) sz) ((fun _ => wd k b P I D) u) t) (va_A (wd k b P I D) sz)) 0 0 (va_A (wd k b P I D) sz) := by
  refine Met.ofW (cc := cFi_two) (maxL := 2) (ret := (some .int)) (by decide) rfl ?_
  intro p e s m args below meth c s₁ B hml hv
  obtain ⟨rfl, hsz, hP, hK, hD0, hE⟩ := hv
  have hx := B.exec
  have hb := B.bytes
  have hr := B.returns
  have hts : ∀ w ∈ W0, w.before [.ref (b 1), .int (nI t)].toArray s = true := fun w h => atoms_spec (ws := wFi_two) B.pre w (List.mem_cons_of_mem _ h)
  have hown : s.vm.findClass RFi = some m.cls := findClass_of_methodNamed B.named
  have hlocks := B.notSynchronized
  subst hsz
  have hP0 := hP
  have hD := hD0.self (sz := s.heap.size)
  generalize hAe : va_A (wd k b P I D) s.heap.size = A at hD ⊢
  have hA : ∀ q : Nat, s.heap.size ≤ q → A q := fun q h => by rw [← hAe]; exact Or.inr h
  have hS : va_S A s.heap s.heap [] := va_S.rf
  have hl := lv_entry ([.ref (b 1), .int (nI t)]) (n := 2) (Nat.le_of_ble_eq_true rfl)
  rw [lg_entry_eq]
  generalize (lg_sl ([.ref (b 1), .int (nI t)]) ++ List.replicate (2 - (lg_sl ([.ref (b 1), .int (nI t)])).length) Slot.unset).toArray = ls at hl ⊢
  have hl : lv_has ls 2 [(0, .ref (b 1)), (1, .int (nI t))] := hl
  refine lv_aload_n hx hb dFi_two_0 rfl (lv_at hl 0 rfl) ?_
  refine va_get (D := (dC, dI)) (ci := 4) (v := .ref (b 2)) (C := RFi) (T := TFi) (N := 2) hx hb hts inFi hown hK hP 1 rfl rfl 0 (by decide) (hts _ tw_33) (fun _ h9 => h9) rfl dFi_two_1 ?_
  refine lv_iload_n hx hb dFi_two_4 rfl (lv_at hl 1 rfl) ?_
  refine rw_ald_i hx hb hK hP 2 0 rfl rfl (by omega) (by decide) dFi_two_5 ?_
  refine rw_i (y := nI (oc t)) ((ho _ (by omega)).1) ?_
  refine lv_sipush (v := nI 256) hx hb dFi_two_6 (by decide +kernel) ?_
  refine lv_aload_n hx hb dFi_two_9 rfl (lv_at hl 0 rfl) ?_
  refine va_get (D := (dC, dI)) (ci := 4) (v := .ref (b 2)) (C := RFi) (T := TFi) (N := 2) hx hb hts inFi hown hK hP 1 rfl rfl 0 (by decide) (hts _ tw_33) (fun _ h9 => h9) rfl dFi_two_10 ?_
  refine lv_iload_n hx hb dFi_two_13 rfl (lv_at hl 1 rfl) ?_
  refine lv_iconst (v := nI 1) hx hb dFi_two_14 (by decide +kernel) ?_
  refine lv_iadd hx hb dFi_two_15 ?_
  refine rw_i (y := nI (t + 1)) (nI_add _ _) ?_
  refine rw_ald_i hx hb hK hP 2 0 rfl rfl (by omega) (by decide) dFi_two_16 ?_
  refine rw_i (y := nI (oc (t + 1))) ((ho _ (by omega)).1) ?_
  refine lv_imul hx hb dFi_two_17 ?_
  refine rw_i (y := nI (256 * (oc (t + 1)))) (pk_mul _ _) ?_
  refine lv_iadd hx hb dFi_two_18 ?_
  refine rw_i (y := nI ((oc t) + (256 * (oc (t + 1))))) (nI_add _ _) ?_
  exact ct_ri hx hb hr hlocks () (by rw [nu_2]) hP hD hS (Nat.le_refl _) (Nat.le_refl _) dFi_two_19
set_option maxHeartbeats 4000000 in
set_option maxRecDepth 100000 in
theorem kFi_four (l : Launch) (dC : Nat → ClassId) (dI : Nat → Nat → Nat) (k : Nat → ClassId) (b P : Nat → Nat) (I : Nat → Nat → Int32) (D : Nat → Nat → UInt64) (sz : Nat) (t : Nat) (oc : Nat → Nat) (ht : t + 4 ≤ 400) (ho : ∀ j, j < 400 → I 1 j = nI (oc j) ∧ oc j < 256) : Met l yFi_four wFi_four ({ frames := 1, cells := 0, slots := 0, locals := 21 }) (va_Pc [.ref (b 1), .int (nI t)] (ct_pre (dC, dI) (de_ty k) (fun _ => True) (wd k b P I D) sz)) (va_Ql (fun r (_ : Unit) => r = lN (nu oc t 4)) (fun u t => ct_at (dC, dI) (va_A (wd k b P I D) sz) ((fun _ => wd k b P I D) u) t) (va_A (wd k b P I D) sz)) 0 0 (va_A (wd k b P I D) sz) := by
  refine Met.ofW (cc := cFi_four) (maxL := 2) (ret := (some .long)) (by decide) rfl ?_
  intro p e s m args below meth c s₁ B hml hv
  obtain ⟨rfl, hsz, hP, hK, hD0, hE⟩ := hv
  have hx := B.exec
  have hb := B.bytes
  have hr := B.returns
  have hts : ∀ w ∈ W0, w.before [.ref (b 1), .int (nI t)].toArray s = true := fun w h => atoms_spec (ws := wFi_four) B.pre w (List.mem_cons_of_mem _ h)
  have hown : s.vm.findClass RFi = some m.cls := findClass_of_methodNamed B.named
  have hlocks := B.notSynchronized
  subst hsz
  have hP0 := hP
  have hD := hD0.self (sz := s.heap.size)
  generalize hAe : va_A (wd k b P I D) s.heap.size = A at hD ⊢
  have hA : ∀ q : Nat, s.heap.size ≤ q → A q := fun q h => by rw [← hAe]; exact Or.inr h
  have hS : va_S A s.heap s.heap [] := va_S.rf
  have hl := lv_entry ([.ref (b 1), .int (nI t)]) (n := 2) (Nat.le_of_ble_eq_true rfl)
  rw [lg_entry_eq]
  generalize (lg_sl ([.ref (b 1), .int (nI t)]) ++ List.replicate (2 - (lg_sl ([.ref (b 1), .int (nI t)])).length) Slot.unset).toArray = ls at hl ⊢
  have hl : lv_has ls 2 [(0, .ref (b 1)), (1, .int (nI t))] := hl
  have ho2 : ∀ j, j < 400 → oc j < 256 := fun j hj => (ho j hj).2
  refine lv_aload_n hx hb dFi_four_0 rfl (lv_at hl 0 rfl) ?_
  refine lv_iload_n hx hb dFi_four_1 rfl (lv_at hl 1 rfl) ?_
  refine ct_i (va_runV (As := [.int (nI t)]) (rest := []) ⟨hx, hb, hml, hown, hts⟩ (kFi_two l dC dI k b P I D _ t oc (by omega) ho) (cwV 1 hts (gw_V tw_360 tw_362 sl_Fi_two tw_2 tw_363) rfl rfl rfl (by decide +kernel) ⟨Nat.le_of_ble_eq_true rfl, Nat.le_of_ble_eq_true rfl⟩) ⟨ct_blind (ev := (fun _ => True)) (fun _ _ _ _ h => h), va_recv hK hP (ci := 4) (q0 := 1) rfl rfl, ct_now (ev := (fun _ => True)) (fun _ _ _ => trivial) hP hK hD⟩ rfl rfl hl.1 rfl (lv_room (Nat.le_of_ble_eq_true rfl)) dFi_four_2 ⟨Nat.le_of_ble_eq_true rfl, Nat.le_of_ble_eq_true rfl⟩) hD hS hA (fun r1 u1 H locs hw1 hP hD hS => ?_)
  subst hw1
  have b2 := nu_l2 (t := t) ho2 (by omega)
  refine lv_i2l (v := lN (nu oc t 2)) hx hb dFi_four_5 (nI_l (by omega)) ?_
  refine lv_ldc2 (v := 65536) hx hb hown (hts _ tw_364) dFi_four_6 ?_
  refine rw_l (y := lN 65536) (by decide +kernel) ?_
  refine lv_aload_n hx hb dFi_four_9 rfl (lv_at hl 0 rfl) ?_
  refine lv_iload_n hx hb dFi_four_10 rfl (lv_at hl 1 rfl) ?_
  refine lv_iconst (v := nI 2) hx hb dFi_four_11 (by decide +kernel) ?_
  refine lv_iadd hx hb dFi_four_12 ?_
  refine rw_i (y := nI (t + 2)) (nI_add _ _) ?_
  refine ct_i (va_runV (As := [.int (nI (t + 2))]) (rest := [.long (lN 65536), .long (lN (nu oc t 2))]) ⟨hx, hb, hml, hown, hts⟩ (kFi_two l dC dI k b P I D _ (t + 2) oc (by omega) ho) (cwV 1 hts (gw_V tw_360 tw_362 sl_Fi_two tw_2 tw_363) rfl rfl rfl (by decide +kernel) ⟨Nat.le_of_ble_eq_true rfl, Nat.le_of_ble_eq_true rfl⟩) ⟨ct_blind (ev := (fun _ => True)) (fun _ _ _ _ h => h), va_recv hK hP (ci := 4) (q0 := 1) rfl rfl, ct_now (ev := (fun _ => True)) (fun _ _ _ => trivial) hP hK hD⟩ rfl rfl hl.1 rfl (lv_room (Nat.le_of_ble_eq_true rfl)) dFi_four_13 ⟨Nat.le_of_ble_eq_true rfl, Nat.le_of_ble_eq_true rfl⟩) hD hS hA (fun r2 u2 H locs hw2 hP hD hS => ?_)
  subst hw2
  have b13 := nu_l2 (t := (t + 2)) ho2 (by omega)
  refine lv_i2l (v := lN (nu oc (t + 2) 2)) hx hb dFi_four_16 (nI_l (by omega)) ?_
  refine lv_lmul hx hb dFi_four_17 ?_
  refine rw_l (y := lN (65536 * (nu oc (t + 2) 2))) (lN_mul _ _) ?_
  refine lv_ladd hx hb dFi_four_18 ?_
  refine rw_l (y := lN ((nu oc t 2) + (65536 * (nu oc (t + 2) 2)))) (lN_add _ _) ?_
  exact ct_rl hx hb hr hlocks () (by rw [nu_4]) hP hD hS (Nat.le_refl _) (Nat.le_refl _) dFi_four_19
set_option maxHeartbeats 4000000 in
set_option maxRecDepth 100000 in
theorem kFi_channels (l : Launch) (dC : Nat → ClassId) (dI : Nat → Nat → Nat) (k : Nat → ClassId) (b P : Nat → Nat) (I : Nat → Nat → Int32) (D : Nat → Nat → UInt64) (sz : Nat) (oc : Nat → Nat) (ho : ∀ j, j < 400 → I 1 j = nI (oc j) ∧ oc j < 256) : Met l yFi_channels wFi_channels ({ frames := 1, cells := 0, slots := 0, locals := 21 }) (va_Pc [.ref (b 1)] (ct_pre (dC, dI) (de_ty k) (fun _ => True) (wd k b P I D) sz)) (va_Qi (fun r (_ : Unit) => r = nI (nu oc 22 2)) (fun u t => ct_at (dC, dI) (va_A (wd k b P I D) sz) ((fun _ => wd k b P I D) u) t) (va_A (wd k b P I D) sz)) 0 0 (va_A (wd k b P I D) sz) := by
  refine Met.ofW (cc := cFi_channels) (maxL := 1) (ret := (some .int)) (by decide) rfl ?_
  intro p e s m args below meth c s₁ B hml hv
  obtain ⟨rfl, hsz, hP, hK, hD0, hE⟩ := hv
  have hx := B.exec
  have hb := B.bytes
  have hr := B.returns
  have hts : ∀ w ∈ W0, w.before [.ref (b 1)].toArray s = true := fun w h => atoms_spec (ws := wFi_channels) B.pre w (List.mem_cons_of_mem _ h)
  have hown : s.vm.findClass RFi = some m.cls := findClass_of_methodNamed B.named
  have hlocks := B.notSynchronized
  subst hsz
  have hP0 := hP
  have hD := hD0.self (sz := s.heap.size)
  generalize hAe : va_A (wd k b P I D) s.heap.size = A at hD ⊢
  have hA : ∀ q : Nat, s.heap.size ≤ q → A q := fun q h => by rw [← hAe]; exact Or.inr h
  have hS : va_S A s.heap s.heap [] := va_S.rf
  have hl := lv_entry ([.ref (b 1)]) (n := 1) (Nat.le_of_ble_eq_true rfl)
  rw [lg_entry_eq]
  generalize (lg_sl ([.ref (b 1)]) ++ List.replicate (1 - (lg_sl ([.ref (b 1)])).length) Slot.unset).toArray = ls at hl ⊢
  have hl : lv_has ls 1 [(0, .ref (b 1))] := hl
  have ho2 : ∀ j, j < 400 → oc j < 256 := fun j hj => (ho j hj).2
  refine lv_aload_n hx hb dFi_channels_0 rfl (lv_at hl 0 rfl) ?_
  refine lv_bipush (v := nI 22) hx hb dFi_channels_1 (by decide +kernel) ?_
  refine ct_i (va_runV (As := [.int (nI 22)]) (rest := []) ⟨hx, hb, hml, hown, hts⟩ (kFi_two l dC dI k b P I D _ 22 oc (by omega) ho) (cwV 1 hts (gw_V tw_360 tw_362 sl_Fi_two tw_2 tw_363) rfl rfl rfl (by decide +kernel) ⟨Nat.le_of_ble_eq_true rfl, Nat.le_of_ble_eq_true rfl⟩) ⟨ct_blind (ev := (fun _ => True)) (fun _ _ _ _ h => h), va_recv hK hP (ci := 4) (q0 := 1) rfl rfl, ct_now (ev := (fun _ => True)) (fun _ _ _ => trivial) hP hK hD⟩ rfl rfl hl.1 rfl (lv_room (Nat.le_of_ble_eq_true rfl)) dFi_channels_3 ⟨Nat.le_of_ble_eq_true rfl, Nat.le_of_ble_eq_true rfl⟩) hD hS hA (fun r1 u1 H locs hw1 hP hD hS => ?_)
  subst hw1
  have b3 := nu_l2 (t := 22) ho2 (by omega)
  exact ct_ri hx hb hr hlocks () rfl hP hD hS (Nat.le_refl _) (Nat.le_refl _) dFi_channels_6
set_option maxHeartbeats 4000000 in
set_option maxRecDepth 100000 in
theorem kFi_width (l : Launch) (dC : Nat → ClassId) (dI : Nat → Nat → Nat) (k : Nat → ClassId) (b P : Nat → Nat) (I : Nat → Nat → Int32) (D : Nat → Nat → UInt64) (sz : Nat) (oc : Nat → Nat) (ho : ∀ j, j < 400 → I 1 j = nI (oc j) ∧ oc j < 256) : Met l yFi_width wFi_width ({ frames := 1, cells := 0, slots := 0, locals := 21 }) (va_Pc [.ref (b 1)] (ct_pre (dC, dI) (de_ty k) (fun _ => True) (wd k b P I D) sz)) (va_Qi (fun r (_ : Unit) => r = nI (nu oc 32 2)) (fun u t => ct_at (dC, dI) (va_A (wd k b P I D) sz) ((fun _ => wd k b P I D) u) t) (va_A (wd k b P I D) sz)) 0 0 (va_A (wd k b P I D) sz) := by
  refine Met.ofW (cc := cFi_width) (maxL := 1) (ret := (some .int)) (by decide) rfl ?_
  intro p e s m args below meth c s₁ B hml hv
  obtain ⟨rfl, hsz, hP, hK, hD0, hE⟩ := hv
  have hx := B.exec
  have hb := B.bytes
  have hr := B.returns
  have hts : ∀ w ∈ W0, w.before [.ref (b 1)].toArray s = true := fun w h => atoms_spec (ws := wFi_width) B.pre w (List.mem_cons_of_mem _ h)
  have hown : s.vm.findClass RFi = some m.cls := findClass_of_methodNamed B.named
  have hlocks := B.notSynchronized
  subst hsz
  have hP0 := hP
  have hD := hD0.self (sz := s.heap.size)
  generalize hAe : va_A (wd k b P I D) s.heap.size = A at hD ⊢
  have hA : ∀ q : Nat, s.heap.size ≤ q → A q := fun q h => by rw [← hAe]; exact Or.inr h
  have hS : va_S A s.heap s.heap [] := va_S.rf
  have hl := lv_entry ([.ref (b 1)]) (n := 1) (Nat.le_of_ble_eq_true rfl)
  rw [lg_entry_eq]
  generalize (lg_sl ([.ref (b 1)]) ++ List.replicate (1 - (lg_sl ([.ref (b 1)])).length) Slot.unset).toArray = ls at hl ⊢
  have hl : lv_has ls 1 [(0, .ref (b 1))] := hl
  have ho2 : ∀ j, j < 400 → oc j < 256 := fun j hj => (ho j hj).2
  refine lv_aload_n hx hb dFi_width_0 rfl (lv_at hl 0 rfl) ?_
  refine lv_bipush (v := nI 32) hx hb dFi_width_1 (by decide +kernel) ?_
  refine ct_i (va_runV (As := [.int (nI 32)]) (rest := []) ⟨hx, hb, hml, hown, hts⟩ (kFi_two l dC dI k b P I D _ 32 oc (by omega) ho) (cwV 1 hts (gw_V tw_360 tw_362 sl_Fi_two tw_2 tw_363) rfl rfl rfl (by decide +kernel) ⟨Nat.le_of_ble_eq_true rfl, Nat.le_of_ble_eq_true rfl⟩) ⟨ct_blind (ev := (fun _ => True)) (fun _ _ _ _ h => h), va_recv hK hP (ci := 4) (q0 := 1) rfl rfl, ct_now (ev := (fun _ => True)) (fun _ _ _ => trivial) hP hK hD⟩ rfl rfl hl.1 rfl (lv_room (Nat.le_of_ble_eq_true rfl)) dFi_width_3 ⟨Nat.le_of_ble_eq_true rfl, Nat.le_of_ble_eq_true rfl⟩) hD hS hA (fun r1 u1 H locs hw1 hP hD hS => ?_)
  subst hw1
  have b3 := nu_l2 (t := 32) ho2 (by omega)
  exact ct_ri hx hb hr hlocks () rfl hP hD hS (Nat.le_refl _) (Nat.le_refl _) dFi_width_6
set_option maxHeartbeats 4000000 in
set_option maxRecDepth 100000 in
theorem kFi_bits (l : Launch) (dC : Nat → ClassId) (dI : Nat → Nat → Nat) (k : Nat → ClassId) (b P : Nat → Nat) (I : Nat → Nat → Int32) (D : Nat → Nat → UInt64) (sz : Nat) (oc : Nat → Nat) (ho : ∀ j, j < 400 → I 1 j = nI (oc j) ∧ oc j < 256) : Met l yFi_bits wFi_bits ({ frames := 1, cells := 0, slots := 0, locals := 21 }) (va_Pc [.ref (b 1)] (ct_pre (dC, dI) (de_ty k) (fun _ => True) (wd k b P I D) sz)) (va_Qi (fun r (_ : Unit) => r = nI (nu oc 34 2)) (fun u t => ct_at (dC, dI) (va_A (wd k b P I D) sz) ((fun _ => wd k b P I D) u) t) (va_A (wd k b P I D) sz)) 0 0 (va_A (wd k b P I D) sz) := by
  refine Met.ofW (cc := cFi_bits) (maxL := 1) (ret := (some .int)) (by decide) rfl ?_
  intro p e s m args below meth c s₁ B hml hv
  obtain ⟨rfl, hsz, hP, hK, hD0, hE⟩ := hv
  have hx := B.exec
  have hb := B.bytes
  have hr := B.returns
  have hts : ∀ w ∈ W0, w.before [.ref (b 1)].toArray s = true := fun w h => atoms_spec (ws := wFi_bits) B.pre w (List.mem_cons_of_mem _ h)
  have hown : s.vm.findClass RFi = some m.cls := findClass_of_methodNamed B.named
  have hlocks := B.notSynchronized
  subst hsz
  have hP0 := hP
  have hD := hD0.self (sz := s.heap.size)
  generalize hAe : va_A (wd k b P I D) s.heap.size = A at hD ⊢
  have hA : ∀ q : Nat, s.heap.size ≤ q → A q := fun q h => by rw [← hAe]; exact Or.inr h
  have hS : va_S A s.heap s.heap [] := va_S.rf
  have hl := lv_entry ([.ref (b 1)]) (n := 1) (Nat.le_of_ble_eq_true rfl)
  rw [lg_entry_eq]
  generalize (lg_sl ([.ref (b 1)]) ++ List.replicate (1 - (lg_sl ([.ref (b 1)])).length) Slot.unset).toArray = ls at hl ⊢
  have hl : lv_has ls 1 [(0, .ref (b 1))] := hl
  have ho2 : ∀ j, j < 400 → oc j < 256 := fun j hj => (ho j hj).2
  refine lv_aload_n hx hb dFi_bits_0 rfl (lv_at hl 0 rfl) ?_
  refine lv_bipush (v := nI 34) hx hb dFi_bits_1 (by decide +kernel) ?_
  refine ct_i (va_runV (As := [.int (nI 34)]) (rest := []) ⟨hx, hb, hml, hown, hts⟩ (kFi_two l dC dI k b P I D _ 34 oc (by omega) ho) (cwV 1 hts (gw_V tw_360 tw_362 sl_Fi_two tw_2 tw_363) rfl rfl rfl (by decide +kernel) ⟨Nat.le_of_ble_eq_true rfl, Nat.le_of_ble_eq_true rfl⟩) ⟨ct_blind (ev := (fun _ => True)) (fun _ _ _ _ h => h), va_recv hK hP (ci := 4) (q0 := 1) rfl rfl, ct_now (ev := (fun _ => True)) (fun _ _ _ => trivial) hP hK hD⟩ rfl rfl hl.1 rfl (lv_room (Nat.le_of_ble_eq_true rfl)) dFi_bits_3 ⟨Nat.le_of_ble_eq_true rfl, Nat.le_of_ble_eq_true rfl⟩) hD hS hA (fun r1 u1 H locs hw1 hP hD hS => ?_)
  subst hw1
  have b3 := nu_l2 (t := 34) ho2 (by omega)
  exact ct_ri hx hb hr hlocks () rfl hP hD hS (Nat.le_refl _) (Nat.le_refl _) dFi_bits_6
set_option maxHeartbeats 4000000 in
set_option maxRecDepth 100000 in
theorem kFi_rateSaid (l : Launch) (dC : Nat → ClassId) (dI : Nat → Nat → Nat) (k : Nat → ClassId) (b P : Nat → Nat) (I : Nat → Nat → Int32) (D : Nat → Nat → UInt64) (sz : Nat) (oc : Nat → Nat) (ho : ∀ j, j < 400 → I 1 j = nI (oc j) ∧ oc j < 256) : Met l yFi_rateSaid wFi_rateSaid ({ frames := 2, cells := 0, slots := 0, locals := 42 }) (va_Pc [.ref (b 1)] (ct_pre (dC, dI) (de_ty k) (fun _ => True) (wd k b P I D) sz)) (va_Ql (fun r (_ : Unit) => r = lN (nu oc 24 4)) (fun u t => ct_at (dC, dI) (va_A (wd k b P I D) sz) ((fun _ => wd k b P I D) u) t) (va_A (wd k b P I D) sz)) 0 0 (va_A (wd k b P I D) sz) := by
  refine Met.ofW (cc := cFi_rateSaid) (maxL := 1) (ret := (some .long)) (by decide) rfl ?_
  intro p e s m args below meth c s₁ B hml hv
  obtain ⟨rfl, hsz, hP, hK, hD0, hE⟩ := hv
  have hx := B.exec
  have hb := B.bytes
  have hr := B.returns
  have hts : ∀ w ∈ W0, w.before [.ref (b 1)].toArray s = true := fun w h => atoms_spec (ws := wFi_rateSaid) B.pre w (List.mem_cons_of_mem _ h)
  have hown : s.vm.findClass RFi = some m.cls := findClass_of_methodNamed B.named
  have hlocks := B.notSynchronized
  subst hsz
  have hP0 := hP
  have hD := hD0.self (sz := s.heap.size)
  generalize hAe : va_A (wd k b P I D) s.heap.size = A at hD ⊢
  have hA : ∀ q : Nat, s.heap.size ≤ q → A q := fun q h => by rw [← hAe]; exact Or.inr h
  have hS : va_S A s.heap s.heap [] := va_S.rf
  have hl := lv_entry ([.ref (b 1)]) (n := 1) (Nat.le_of_ble_eq_true rfl)
  rw [lg_entry_eq]
  generalize (lg_sl ([.ref (b 1)]) ++ List.replicate (1 - (lg_sl ([.ref (b 1)])).length) Slot.unset).toArray = ls at hl ⊢
  have hl : lv_has ls 1 [(0, .ref (b 1))] := hl
  have ho2 : ∀ j, j < 400 → oc j < 256 := fun j hj => (ho j hj).2
  refine lv_aload_n hx hb dFi_rateSaid_0 rfl (lv_at hl 0 rfl) ?_
  refine lv_bipush (v := nI 24) hx hb dFi_rateSaid_1 (by decide +kernel) ?_
  refine ct_l (va_runV (As := [.int (nI 24)]) (rest := []) ⟨hx, hb, hml, hown, hts⟩ (kFi_four l dC dI k b P I D _ 24 oc (by omega) ho) (cwV 1 hts (gw_V tw_356 tw_358 sl_Fi_four tw_2 tw_359) rfl rfl rfl (by decide +kernel) ⟨Nat.le_of_ble_eq_true rfl, Nat.le_of_ble_eq_true rfl⟩) ⟨ct_blind (ev := (fun _ => True)) (fun _ _ _ _ h => h), va_recv hK hP (ci := 4) (q0 := 1) rfl rfl, ct_now (ev := (fun _ => True)) (fun _ _ _ => trivial) hP hK hD⟩ rfl rfl hl.1 rfl (lv_room (Nat.le_of_ble_eq_true rfl)) dFi_rateSaid_3 ⟨Nat.le_of_ble_eq_true rfl, Nat.le_of_ble_eq_true rfl⟩) hD hS hA (fun r1 u1 H locs hw1 hP hD hS => ?_)
  subst hw1
  have b3 := nu_l4 (t := 24) ho2 (by omega)
  exact ct_rl hx hb hr hlocks () rfl hP hD hS (Nat.le_refl _) (Nat.le_refl _) dFi_rateSaid_6
set_option maxHeartbeats 4000000 in
set_option maxRecDepth 100000 in
theorem kFi_spells (l : Launch) (dC : Nat → ClassId) (dI : Nat → Nat → Nat) (k : Nat → ClassId) (b P : Nat → Nat) (I : Nat → Nat → Int32) (D : Nat → Nat → UInt64) (sz : Nat) (t x1 x2 x3 x4 : Nat) (oc : Nat → Nat) (ht : t + 3 < 400) (ho : ∀ j, j < 400 → I 1 j = nI (oc j) ∧ oc j < 256) (g1 : x1 < 256) (g2 : x2 < 256) (g3 : x3 < 256) (g4 : x4 < 256) : Met l yFi_spells wFi_spells ({ frames := 0, cells := 0, slots := 0, locals := 0 }) (va_Pc [.ref (b 1), .int (nI t), .int (nI x1), .int (nI x2), .int (nI x3), .int (nI x4)] (ct_pre (dC, dI) (de_ty k) (fun _ => True) (wd k b P I D) sz)) (va_Qi (fun r (_ : Unit) => r = (if fi_sp oc t x1 x2 x3 x4 then 1 else 0)) (fun u t => ct_at (dC, dI) (va_A (wd k b P I D) sz) ((fun _ => wd k b P I D) u) t) (va_A (wd k b P I D) sz)) 0 0 (va_A (wd k b P I D) sz) := by
  refine Met.ofW (cc := cFi_spells) (maxL := 6) (ret := (some .boolean)) (by decide) rfl ?_
  intro p e s m args below meth c s₁ B hml hv
  obtain ⟨rfl, hsz, hP, hK, hD0, hE⟩ := hv
  have hx := B.exec
  have hb := B.bytes
  have hr := B.returns
  have hts : ∀ w ∈ W0, w.before [.ref (b 1), .int (nI t), .int (nI x1), .int (nI x2), .int (nI x3), .int (nI x4)].toArray s = true := fun w h => atoms_spec (ws := wFi_spells) B.pre w (List.mem_cons_of_mem _ h)
  have hown : s.vm.findClass RFi = some m.cls := findClass_of_methodNamed B.named
  have hlocks := B.notSynchronized
  subst hsz
  have hP0 := hP
  have hD := hD0.self (sz := s.heap.size)
  generalize hAe : va_A (wd k b P I D) s.heap.size = A at hD ⊢
  have hA : ∀ q : Nat, s.heap.size ≤ q → A q := fun q h => by rw [← hAe]; exact Or.inr h
  have hS : va_S A s.heap s.heap [] := va_S.rf
  have hl := lv_entry ([.ref (b 1), .int (nI t), .int (nI x1), .int (nI x2), .int (nI x3), .int (nI x4)]) (n := 6) (Nat.le_of_ble_eq_true rfl)
  rw [lg_entry_eq]
  generalize (lg_sl ([.ref (b 1), .int (nI t), .int (nI x1), .int (nI x2), .int (nI x3), .int (nI x4)]) ++ List.replicate (6 - (lg_sl ([.ref (b 1), .int (nI t), .int (nI x1), .int (nI x2), .int (nI x3), .int (nI x4)])).length) Slot.unset).toArray = ls at hl ⊢
  have hl : lv_has ls 6 [(0, .ref (b 1)), (1, .int (nI t)), (2, .int (nI x1)), (3, .int (nI x2)), (4, .int (nI x3)), (5, .int (nI x4))] := hl
  refine lv_aload_n hx hb dFi_spells_0 rfl (lv_at hl 0 rfl) ?_
  refine va_get (D := (dC, dI)) (ci := 4) (v := .ref (b 2)) (C := RFi) (T := TFi) (N := 2) hx hb hts inFi hown hK hP 1 rfl rfl 0 (by decide) (hts _ tw_33) (fun _ h9 => h9) rfl dFi_spells_1 ?_
  refine lv_iload_n hx hb dFi_spells_4 rfl (lv_at hl 1 rfl) ?_
  refine rw_ald_i hx hb hK hP 2 0 rfl rfl (by omega) (by decide) dFi_spells_5 ?_
  have q6 := (ho (t) (by omega)).2
  refine rw_i (y := nI (oc t)) ((ho _ (by omega)).1) ?_
  refine lv_iload_n hx hb dFi_spells_6 rfl (lv_at hl 2 rfl) ?_
  refine lv_icmp_ne (tgt := 52) hx hb dFi_spells_7 (by decide) (fun c7 => ?_) (fun c7 => ?_)
  · have c7 : ¬ (oc t) = x1 := fun q9 => c7 (show nI (oc t) = nI x1 from (nI_eq (a := (oc t)) (b := x1) (by omega) (by omega)).mpr q9)
    refine lv_iconst (v := nI 0) hx hb dFi_spells_52 (by decide +kernel) ?_
    exact ct_rz hx hb hr hlocks () (sp_post_0 (by first | exact ⟨c7, c19, c32, c45⟩ | exact fun q => c7 q.1 | exact fun q => c19 q.2.1 | exact fun q => c32 q.2.2.1 | exact fun q => c45 q.2.2.2)) hP hD hS (Nat.le_refl _) (Nat.le_refl _) dFi_spells_53
  · have c7 : (oc t) = x1 := (nI_eq (a := (oc t)) (b := x1) (by omega) (by omega)).mp (show nI (oc t) = nI x1 from c7)
    refine lv_aload_n hx hb dFi_spells_10 rfl (lv_at hl 0 rfl) ?_
    refine va_get (D := (dC, dI)) (ci := 4) (v := .ref (b 2)) (C := RFi) (T := TFi) (N := 2) hx hb hts inFi hown hK hP 1 rfl rfl 0 (by decide) (hts _ tw_33) (fun _ h9 => h9) rfl dFi_spells_11 ?_
    refine lv_iload_n hx hb dFi_spells_14 rfl (lv_at hl 1 rfl) ?_
    refine lv_iconst (v := nI 1) hx hb dFi_spells_15 (by decide +kernel) ?_
    refine lv_iadd hx hb dFi_spells_16 ?_
    refine rw_i (y := nI (t + 1)) (nI_add _ _) ?_
    refine rw_ald_i hx hb hK hP 2 0 rfl rfl (by omega) (by decide) dFi_spells_17 ?_
    have q18 := (ho ((t + 1)) (by omega)).2
    refine rw_i (y := nI (oc (t + 1))) ((ho _ (by omega)).1) ?_
    refine lv_iload_n hx hb dFi_spells_18 rfl (lv_at hl 3 rfl) ?_
    refine lv_icmp_ne (tgt := 52) hx hb dFi_spells_19 (by decide) (fun c19 => ?_) (fun c19 => ?_)
    · have c19 : ¬ (oc (t + 1)) = x2 := fun q9 => c19 (show nI (oc (t + 1)) = nI x2 from (nI_eq (a := (oc (t + 1))) (b := x2) (by omega) (by omega)).mpr q9)
      refine lv_iconst (v := nI 0) hx hb dFi_spells_52 (by decide +kernel) ?_
      exact ct_rz hx hb hr hlocks () (sp_post_0 (by first | exact ⟨c7, c19, c32, c45⟩ | exact fun q => c7 q.1 | exact fun q => c19 q.2.1 | exact fun q => c32 q.2.2.1 | exact fun q => c45 q.2.2.2)) hP hD hS (Nat.le_refl _) (Nat.le_refl _) dFi_spells_53
    · have c19 : (oc (t + 1)) = x2 := (nI_eq (a := (oc (t + 1))) (b := x2) (by omega) (by omega)).mp (show nI (oc (t + 1)) = nI x2 from c19)
      refine lv_aload_n hx hb dFi_spells_22 rfl (lv_at hl 0 rfl) ?_
      refine va_get (D := (dC, dI)) (ci := 4) (v := .ref (b 2)) (C := RFi) (T := TFi) (N := 2) hx hb hts inFi hown hK hP 1 rfl rfl 0 (by decide) (hts _ tw_33) (fun _ h9 => h9) rfl dFi_spells_23 ?_
      refine lv_iload_n hx hb dFi_spells_26 rfl (lv_at hl 1 rfl) ?_
      refine lv_iconst (v := nI 2) hx hb dFi_spells_27 (by decide +kernel) ?_
      refine lv_iadd hx hb dFi_spells_28 ?_
      refine rw_i (y := nI (t + 2)) (nI_add _ _) ?_
      refine rw_ald_i hx hb hK hP 2 0 rfl rfl (by omega) (by decide) dFi_spells_29 ?_
      have q30 := (ho ((t + 2)) (by omega)).2
      refine rw_i (y := nI (oc (t + 2))) ((ho _ (by omega)).1) ?_
      refine lv_iload hx hb dFi_spells_30 (lv_at hl 4 rfl) ?_
      refine lv_icmp_ne (tgt := 52) hx hb dFi_spells_32 (by decide) (fun c32 => ?_) (fun c32 => ?_)
      · have c32 : ¬ (oc (t + 2)) = x3 := fun q9 => c32 (show nI (oc (t + 2)) = nI x3 from (nI_eq (a := (oc (t + 2))) (b := x3) (by omega) (by omega)).mpr q9)
        refine lv_iconst (v := nI 0) hx hb dFi_spells_52 (by decide +kernel) ?_
        exact ct_rz hx hb hr hlocks () (sp_post_0 (by first | exact ⟨c7, c19, c32, c45⟩ | exact fun q => c7 q.1 | exact fun q => c19 q.2.1 | exact fun q => c32 q.2.2.1 | exact fun q => c45 q.2.2.2)) hP hD hS (Nat.le_refl _) (Nat.le_refl _) dFi_spells_53
      · have c32 : (oc (t + 2)) = x3 := (nI_eq (a := (oc (t + 2))) (b := x3) (by omega) (by omega)).mp (show nI (oc (t + 2)) = nI x3 from c32)
        refine lv_aload_n hx hb dFi_spells_35 rfl (lv_at hl 0 rfl) ?_
        refine va_get (D := (dC, dI)) (ci := 4) (v := .ref (b 2)) (C := RFi) (T := TFi) (N := 2) hx hb hts inFi hown hK hP 1 rfl rfl 0 (by decide) (hts _ tw_33) (fun _ h9 => h9) rfl dFi_spells_36 ?_
        refine lv_iload_n hx hb dFi_spells_39 rfl (lv_at hl 1 rfl) ?_
        refine lv_iconst (v := nI 3) hx hb dFi_spells_40 (by decide +kernel) ?_
        refine lv_iadd hx hb dFi_spells_41 ?_
        refine rw_i (y := nI (t + 3)) (nI_add _ _) ?_
        refine rw_ald_i hx hb hK hP 2 0 rfl rfl (by omega) (by decide) dFi_spells_42 ?_
        have q43 := (ho ((t + 3)) (by omega)).2
        refine rw_i (y := nI (oc (t + 3))) ((ho _ (by omega)).1) ?_
        refine lv_iload hx hb dFi_spells_43 (lv_at hl 5 rfl) ?_
        refine lv_icmp_ne (tgt := 52) hx hb dFi_spells_45 (by decide) (fun c45 => ?_) (fun c45 => ?_)
        · have c45 : ¬ (oc (t + 3)) = x4 := fun q9 => c45 (show nI (oc (t + 3)) = nI x4 from (nI_eq (a := (oc (t + 3))) (b := x4) (by omega) (by omega)).mpr q9)
          refine lv_iconst (v := nI 0) hx hb dFi_spells_52 (by decide +kernel) ?_
          exact ct_rz hx hb hr hlocks () (sp_post_0 (by first | exact ⟨c7, c19, c32, c45⟩ | exact fun q => c7 q.1 | exact fun q => c19 q.2.1 | exact fun q => c32 q.2.2.1 | exact fun q => c45 q.2.2.2)) hP hD hS (Nat.le_refl _) (Nat.le_refl _) dFi_spells_53
        · have c45 : (oc (t + 3)) = x4 := (nI_eq (a := (oc (t + 3))) (b := x4) (by omega) (by omega)).mp (show nI (oc (t + 3)) = nI x4 from c45)
          refine lv_iconst (v := nI 1) hx hb dFi_spells_48 (by decide +kernel) ?_
          refine lv_goto (tgt := 53) hx hb dFi_spells_49 (by decide) ?_
          exact ct_rz hx hb hr hlocks () (sp_post_1 (by first | exact ⟨c7, c19, c32, c45⟩ | exact fun q => c7 q.1 | exact fun q => c19 q.2.1 | exact fun q => c32 q.2.2.1 | exact fun q => c45 q.2.2.2)) hP hD hS (Nat.le_refl _) (Nat.le_refl _) dFi_spells_53
set_option maxHeartbeats 4000000 in
set_option maxRecDepth 100000 in
theorem kFi_firstWrongOfHead (l : Launch) (dC : Nat → ClassId) (dI : Nat → Nat → Nat) (k : Nat → ClassId) (b P : Nat → Nat) (I : Nat → Nat → Int32) (D : Nat → Nat → UInt64) (sz : Nat) (n : Nat) (hn : n ≤ 400) (hn44 : 44 ≤ n) (h3 : I 0 3 = nI n) (oc : Nat → Nat) (ho : ∀ j, j < 400 → I 1 j = nI (oc j) ∧ oc j < 256) : Met l yFi_firstWrongOfHead wFi_firstWrongOfHead ({ frames := 2, cells := 0, slots := 0, locals := 42 }) (va_Pc [.ref (b 1)] (ct_pre (dC, dI) (de_ty k) (fun _ => True) (wd k b P I D) sz)) (va_Qi (fun r (_ : Unit) => (fi_h oc n ∧ r = -1) ∨ ((¬ fi_h oc n) ∧ ∃ j, j ≤ 44 ∧ r = nI j)) (fun u t => ct_at (dC, dI) (va_A (wd k b P I D) sz) ((fun _ => wd k b P I D) u) t) (va_A (wd k b P I D) sz)) 0 0 (va_A (wd k b P I D) sz) := by
  refine Met.ofW (cc := cFi_firstWrongOfHead) (maxL := 1) (ret := (some .int)) (by decide) rfl ?_
  intro p e s m args below meth c s₁ B hml hv
  obtain ⟨rfl, hsz, hP, hK, hD0, hE⟩ := hv
  have hx := B.exec
  have hb := B.bytes
  have hr := B.returns
  have hts : ∀ w ∈ W0, w.before [.ref (b 1)].toArray s = true := fun w h => atoms_spec (ws := wFi_firstWrongOfHead) B.pre w (List.mem_cons_of_mem _ h)
  have hown : s.vm.findClass RFi = some m.cls := findClass_of_methodNamed B.named
  have hlocks := B.notSynchronized
  subst hsz
  have hP0 := hP
  have hD := hD0.self (sz := s.heap.size)
  generalize hAe : va_A (wd k b P I D) s.heap.size = A at hD ⊢
  have hA : ∀ q : Nat, s.heap.size ≤ q → A q := fun q h => by rw [← hAe]; exact Or.inr h
  have hS : va_S A s.heap s.heap [] := va_S.rf
  have hl := lv_entry ([.ref (b 1)]) (n := 1) (Nat.le_of_ble_eq_true rfl)
  rw [lg_entry_eq]
  generalize (lg_sl ([.ref (b 1)]) ++ List.replicate (1 - (lg_sl ([.ref (b 1)])).length) Slot.unset).toArray = ls at hl ⊢
  have hl : lv_has ls 1 [(0, .ref (b 1))] := hl
  have ho2 : ∀ j, j < 400 → oc j < 256 := fun j hj => (ho j hj).2
  refine lv_aload_n hx hb dFi_firstWrongOfHead_0 rfl (lv_at hl 0 rfl) ?_
  refine lv_iconst (v := nI 0) hx hb dFi_firstWrongOfHead_1 (by decide +kernel) ?_
  refine lv_bipush (v := nI 82) hx hb dFi_firstWrongOfHead_2 (by decide +kernel) ?_
  refine lv_bipush (v := nI 73) hx hb dFi_firstWrongOfHead_4 (by decide +kernel) ?_
  refine lv_bipush (v := nI 70) hx hb dFi_firstWrongOfHead_6 (by decide +kernel) ?_
  refine lv_bipush (v := nI 70) hx hb dFi_firstWrongOfHead_8 (by decide +kernel) ?_
  refine ct_i (va_runV (As := [.int (nI 0), .int (nI 82), .int (nI 73), .int (nI 70), .int (nI 70)]) (rest := []) ⟨hx, hb, hml, hown, hts⟩ (kFi_spells l dC dI k b P I D _ 0 82 73 70 70 oc (by decide) ho (by decide) (by decide) (by decide) (by decide)) (cwV 5 hts (gw_V tw_352 tw_354 sl_Fi_spells tw_2 tw_355) rfl rfl rfl (by decide +kernel) ⟨Nat.le_of_ble_eq_true rfl, Nat.le_of_ble_eq_true rfl⟩) ⟨ct_blind (ev := (fun _ => True)) (fun _ _ _ _ h => h), va_recv hK hP (ci := 4) (q0 := 1) rfl rfl, ct_now (ev := (fun _ => True)) (fun _ _ _ => trivial) hP hK hD⟩ rfl rfl hl.1 rfl (lv_room (Nat.le_of_ble_eq_true rfl)) dFi_firstWrongOfHead_10 ⟨Nat.le_of_ble_eq_true rfl, Nat.le_of_ble_eq_true rfl⟩) hD hS hA (fun r1 u1 H locs hw1 hP hD hS => ?_)
  by_cases g10 : fi_sp oc 0 82 73 70 70
  · rw [if_pos g10] at hw1
    subst hw1
    refine rw_i (y := nI 1) rfl ?_
    refine lv_if_ne (tgt := 18) hx hb dFi_firstWrongOfHead_13 (by decide) (fun c13 => ?_) (fun c13 => ?_)
    · have c13 : ¬ 1 = 0 := fun q9 => c13 (show nI 1 = nI 0 from (nI_eq (a := 1) (b := 0) (by omega) (by omega)).mpr q9)
      refine lv_aload_n hx hb dFi_firstWrongOfHead_18 rfl (lv_at hl 0 rfl) ?_
      refine lv_iconst (v := nI 4) hx hb dFi_firstWrongOfHead_19 (by decide +kernel) ?_
      refine ct_l (va_runV (As := [.int (nI 4)]) (rest := []) ⟨hx, hb, hml, hown, hts⟩ (kFi_four l dC dI k b P I D _ 4 oc (by omega) ho) (cwV 1 hts (gw_V tw_356 tw_358 sl_Fi_four tw_2 tw_359) rfl rfl rfl (by decide +kernel) ⟨Nat.le_of_ble_eq_true rfl, Nat.le_of_ble_eq_true rfl⟩) ⟨ct_blind (ev := (fun _ => True)) (fun _ _ _ _ h => h), va_recv hK hP (ci := 4) (q0 := 1) rfl rfl, ct_now (ev := (fun _ => True)) (fun _ _ _ => trivial) hP hK hD⟩ rfl rfl hl.1 rfl (lv_room (Nat.le_of_ble_eq_true rfl)) dFi_firstWrongOfHead_20 ⟨Nat.le_of_ble_eq_true rfl, Nat.le_of_ble_eq_true rfl⟩) hD hS hA (fun r2 u2 H locs hw2 hP hD hS => ?_)
      subst hw2
      have b20 := nu_l4 (t := 4) ho2 (by omega)
      refine lv_aload_n hx hb dFi_firstWrongOfHead_23 rfl (lv_at hl 0 rfl) ?_
      refine va_get (D := (dC, dI)) (ci := 4) (v := .int (I 0 3)) (C := RFi) (T := TFi) (N := 2) hx hb hts inFi hown hK hP 1 rfl rfl 1 (by decide) (hts _ tw_34) (fun _ h9 => h9) rfl dFi_firstWrongOfHead_24 ?_
      refine rw_i (y := nI n) h3 ?_
      refine lv_bipush (v := nI 8) hx hb dFi_firstWrongOfHead_27 (by decide +kernel) ?_
      refine lv_isub hx hb dFi_firstWrongOfHead_29 ?_
      refine rw_i (y := nI (n - 8)) (pk_sub (by omega)) ?_
      refine lv_i2l (v := lN (n - 8)) hx hb dFi_firstWrongOfHead_30 (nI_l (by omega)) ?_
      refine W.lcmp hx hb dFi_firstWrongOfHead_31 ?_
      refine lv_if_eq (tgt := 37) hx hb dFi_firstWrongOfHead_32 (by decide) (fun c32 => ?_) (fun c32 => ?_)
      · have c32 : (nu oc 4 4) = (n - 8) := (pk_lEQ (a := (nu oc 4 4)) (b := (n - 8)) (by omega) (by omega)).mp ((lg_cmp_eq _ _).mp c32)
        refine lv_aload_n hx hb dFi_firstWrongOfHead_37 rfl (lv_at hl 0 rfl) ?_
        refine lv_bipush (v := nI 8) hx hb dFi_firstWrongOfHead_38 (by decide +kernel) ?_
        refine lv_bipush (v := nI 87) hx hb dFi_firstWrongOfHead_40 (by decide +kernel) ?_
        refine lv_bipush (v := nI 65) hx hb dFi_firstWrongOfHead_42 (by decide +kernel) ?_
        refine lv_bipush (v := nI 86) hx hb dFi_firstWrongOfHead_44 (by decide +kernel) ?_
        refine lv_bipush (v := nI 69) hx hb dFi_firstWrongOfHead_46 (by decide +kernel) ?_
        refine ct_i (va_runV (As := [.int (nI 8), .int (nI 87), .int (nI 65), .int (nI 86), .int (nI 69)]) (rest := []) ⟨hx, hb, hml, hown, hts⟩ (kFi_spells l dC dI k b P I D _ 8 87 65 86 69 oc (by decide) ho (by decide) (by decide) (by decide) (by decide)) (cwV 5 hts (gw_V tw_352 tw_354 sl_Fi_spells tw_2 tw_355) rfl rfl rfl (by decide +kernel) ⟨Nat.le_of_ble_eq_true rfl, Nat.le_of_ble_eq_true rfl⟩) ⟨ct_blind (ev := (fun _ => True)) (fun _ _ _ _ h => h), va_recv hK hP (ci := 4) (q0 := 1) rfl rfl, ct_now (ev := (fun _ => True)) (fun _ _ _ => trivial) hP hK hD⟩ rfl rfl hl.1 rfl (lv_room (Nat.le_of_ble_eq_true rfl)) dFi_firstWrongOfHead_48 ⟨Nat.le_of_ble_eq_true rfl, Nat.le_of_ble_eq_true rfl⟩) hD hS hA (fun r3 u3 H locs hw3 hP hD hS => ?_)
        by_cases g48 : fi_sp oc 8 87 65 86 69
        · rw [if_pos g48] at hw3
          subst hw3
          refine rw_i (y := nI 1) rfl ?_
          refine lv_if_ne (tgt := 57) hx hb dFi_firstWrongOfHead_51 (by decide) (fun c51 => ?_) (fun c51 => ?_)
          · have c51 : ¬ 1 = 0 := fun q9 => c51 (show nI 1 = nI 0 from (nI_eq (a := 1) (b := 0) (by omega) (by omega)).mpr q9)
            refine lv_aload_n hx hb dFi_firstWrongOfHead_57 rfl (lv_at hl 0 rfl) ?_
            refine lv_bipush (v := nI 12) hx hb dFi_firstWrongOfHead_58 (by decide +kernel) ?_
            refine lv_bipush (v := nI 102) hx hb dFi_firstWrongOfHead_60 (by decide +kernel) ?_
            refine lv_bipush (v := nI 109) hx hb dFi_firstWrongOfHead_62 (by decide +kernel) ?_
            refine lv_bipush (v := nI 116) hx hb dFi_firstWrongOfHead_64 (by decide +kernel) ?_
            refine lv_bipush (v := nI 32) hx hb dFi_firstWrongOfHead_66 (by decide +kernel) ?_
            refine ct_i (va_runV (As := [.int (nI 12), .int (nI 102), .int (nI 109), .int (nI 116), .int (nI 32)]) (rest := []) ⟨hx, hb, hml, hown, hts⟩ (kFi_spells l dC dI k b P I D _ 12 102 109 116 32 oc (by decide) ho (by decide) (by decide) (by decide) (by decide)) (cwV 5 hts (gw_V tw_352 tw_354 sl_Fi_spells tw_2 tw_355) rfl rfl rfl (by decide +kernel) ⟨Nat.le_of_ble_eq_true rfl, Nat.le_of_ble_eq_true rfl⟩) ⟨ct_blind (ev := (fun _ => True)) (fun _ _ _ _ h => h), va_recv hK hP (ci := 4) (q0 := 1) rfl rfl, ct_now (ev := (fun _ => True)) (fun _ _ _ => trivial) hP hK hD⟩ rfl rfl hl.1 rfl (lv_room (Nat.le_of_ble_eq_true rfl)) dFi_firstWrongOfHead_68 ⟨Nat.le_of_ble_eq_true rfl, Nat.le_of_ble_eq_true rfl⟩) hD hS hA (fun r4 u4 H locs hw4 hP hD hS => ?_)
            by_cases g68 : fi_sp oc 12 102 109 116 32
            · rw [if_pos g68] at hw4
              subst hw4
              refine rw_i (y := nI 1) rfl ?_
              refine lv_if_ne (tgt := 77) hx hb dFi_firstWrongOfHead_71 (by decide) (fun c71 => ?_) (fun c71 => ?_)
              · have c71 : ¬ 1 = 0 := fun q9 => c71 (show nI 1 = nI 0 from (nI_eq (a := 1) (b := 0) (by omega) (by omega)).mpr q9)
                refine lv_aload_n hx hb dFi_firstWrongOfHead_77 rfl (lv_at hl 0 rfl) ?_
                refine lv_bipush (v := nI 16) hx hb dFi_firstWrongOfHead_78 (by decide +kernel) ?_
                refine ct_l (va_runV (As := [.int (nI 16)]) (rest := []) ⟨hx, hb, hml, hown, hts⟩ (kFi_four l dC dI k b P I D _ 16 oc (by omega) ho) (cwV 1 hts (gw_V tw_356 tw_358 sl_Fi_four tw_2 tw_359) rfl rfl rfl (by decide +kernel) ⟨Nat.le_of_ble_eq_true rfl, Nat.le_of_ble_eq_true rfl⟩) ⟨ct_blind (ev := (fun _ => True)) (fun _ _ _ _ h => h), va_recv hK hP (ci := 4) (q0 := 1) rfl rfl, ct_now (ev := (fun _ => True)) (fun _ _ _ => trivial) hP hK hD⟩ rfl rfl hl.1 rfl (lv_room (Nat.le_of_ble_eq_true rfl)) dFi_firstWrongOfHead_80 ⟨Nat.le_of_ble_eq_true rfl, Nat.le_of_ble_eq_true rfl⟩) hD hS hA (fun r5 u5 H locs hw5 hP hD hS => ?_)
                subst hw5
                have b80 := nu_l4 (t := 16) ho2 (by omega)
                refine lv_ldc2 (v := 16) hx hb hown (hts _ tw_365) dFi_firstWrongOfHead_83 ?_
                refine rw_l (y := lN 16) (by decide +kernel) ?_
                refine W.lcmp hx hb dFi_firstWrongOfHead_86 ?_
                refine lv_if_eq (tgt := 93) hx hb dFi_firstWrongOfHead_87 (by decide) (fun c87 => ?_) (fun c87 => ?_)
                · have c87 : (nu oc 16 4) = 16 := (pk_lEQ (a := (nu oc 16 4)) (b := 16) (by omega) (by omega)).mp ((lg_cmp_eq _ _).mp c87)
                  refine lv_aload_n hx hb dFi_firstWrongOfHead_93 rfl (lv_at hl 0 rfl) ?_
                  refine lv_bipush (v := nI 20) hx hb dFi_firstWrongOfHead_94 (by decide +kernel) ?_
                  refine ct_i (va_runV (As := [.int (nI 20)]) (rest := []) ⟨hx, hb, hml, hown, hts⟩ (kFi_two l dC dI k b P I D _ 20 oc (by omega) ho) (cwV 1 hts (gw_V tw_360 tw_362 sl_Fi_two tw_2 tw_363) rfl rfl rfl (by decide +kernel) ⟨Nat.le_of_ble_eq_true rfl, Nat.le_of_ble_eq_true rfl⟩) ⟨ct_blind (ev := (fun _ => True)) (fun _ _ _ _ h => h), va_recv hK hP (ci := 4) (q0 := 1) rfl rfl, ct_now (ev := (fun _ => True)) (fun _ _ _ => trivial) hP hK hD⟩ rfl rfl hl.1 rfl (lv_room (Nat.le_of_ble_eq_true rfl)) dFi_firstWrongOfHead_96 ⟨Nat.le_of_ble_eq_true rfl, Nat.le_of_ble_eq_true rfl⟩) hD hS hA (fun r6 u6 H locs hw6 hP hD hS => ?_)
                  subst hw6
                  have b96 := nu_l2 (t := 20) ho2 (by omega)
                  refine lv_iconst (v := nI 1) hx hb dFi_firstWrongOfHead_99 (by decide +kernel) ?_
                  refine lv_icmp_eq (tgt := 108) hx hb dFi_firstWrongOfHead_100 (by decide) (fun c100 => ?_) (fun c100 => ?_)
                  · have c100 : (nu oc 20 2) = 1 := (nI_eq (a := (nu oc 20 2)) (b := 1) (by omega) (by omega)).mp (show nI (nu oc 20 2) = nI 1 from c100)
                    refine lv_iconst (v := (-1)) hx hb dFi_firstWrongOfHead_108 (by decide +kernel) ?_
                    exact ct_ri hx hb hr hlocks () (Or.inl ⟨⟨g10, c32, g48, g68, c87, c100⟩, rfl⟩) hP hD hS (Nat.le_refl _) (Nat.le_refl _) dFi_firstWrongOfHead_109
                  · have c100 : ¬ (nu oc 20 2) = 1 := fun q9 => c100 (show nI (nu oc 20 2) = nI 1 from (nI_eq (a := (nu oc 20 2)) (b := 1) (by omega) (by omega)).mpr q9)
                    refine lv_bipush (v := nI 20) hx hb dFi_firstWrongOfHead_103 (by decide +kernel) ?_
                    refine lv_goto (tgt := 109) hx hb dFi_firstWrongOfHead_105 (by decide) ?_
                    exact ct_ri hx hb hr hlocks () (Or.inr ⟨fun z => c100 z.2.2.2.2.2, 20, by decide, rfl⟩) hP hD hS (Nat.le_refl _) (Nat.le_refl _) dFi_firstWrongOfHead_109
                · have c87 : ¬ (nu oc 16 4) = 16 := fun q9 => c87 ((lg_cmp_eq _ _).mpr ((pk_lEQ (a := (nu oc 16 4)) (b := 16) (by omega) (by omega)).mpr q9))
                  refine lv_bipush (v := nI 16) hx hb dFi_firstWrongOfHead_90 (by decide +kernel) ?_
                  exact ct_ri hx hb hr hlocks () (Or.inr ⟨fun z => c87 (z.2.2.2.2.1), 16, by decide, rfl⟩) hP hD hS (Nat.le_refl _) (Nat.le_refl _) dFi_firstWrongOfHead_92
              · have c71 : 1 = 0 := (nI_eq (a := 1) (b := 0) (by omega) (by omega)).mp (show nI 1 = nI 0 from c71)
                exact absurd c71 (by decide)
            · rw [if_neg g68] at hw4
              subst hw4
              refine rw_i (y := nI 0) rfl ?_
              refine lv_if_ne (tgt := 77) hx hb dFi_firstWrongOfHead_71 (by decide) (fun c71 => ?_) (fun c71 => ?_)
              · have c71 : ¬ 0 = 0 := fun q9 => c71 (show nI 0 = nI 0 from (nI_eq (a := 0) (b := 0) (by omega) (by omega)).mpr q9)
                exact absurd (by decide) c71
              · have c71 : 0 = 0 := (nI_eq (a := 0) (b := 0) (by omega) (by omega)).mp (show nI 0 = nI 0 from c71)
                refine lv_bipush (v := nI 12) hx hb dFi_firstWrongOfHead_74 (by decide +kernel) ?_
                exact ct_ri hx hb hr hlocks () (Or.inr ⟨fun z => g68 (z.2.2.2.1), 12, by decide, rfl⟩) hP hD hS (Nat.le_refl _) (Nat.le_refl _) dFi_firstWrongOfHead_76
          · have c51 : 1 = 0 := (nI_eq (a := 1) (b := 0) (by omega) (by omega)).mp (show nI 1 = nI 0 from c51)
            exact absurd c51 (by decide)
        · rw [if_neg g48] at hw3
          subst hw3
          refine rw_i (y := nI 0) rfl ?_
          refine lv_if_ne (tgt := 57) hx hb dFi_firstWrongOfHead_51 (by decide) (fun c51 => ?_) (fun c51 => ?_)
          · have c51 : ¬ 0 = 0 := fun q9 => c51 (show nI 0 = nI 0 from (nI_eq (a := 0) (b := 0) (by omega) (by omega)).mpr q9)
            exact absurd (by decide) c51
          · have c51 : 0 = 0 := (nI_eq (a := 0) (b := 0) (by omega) (by omega)).mp (show nI 0 = nI 0 from c51)
            refine lv_bipush (v := nI 8) hx hb dFi_firstWrongOfHead_54 (by decide +kernel) ?_
            exact ct_ri hx hb hr hlocks () (Or.inr ⟨fun z => g48 (z.2.2.1), 8, by decide, rfl⟩) hP hD hS (Nat.le_refl _) (Nat.le_refl _) dFi_firstWrongOfHead_56
      · have c32 : ¬ (nu oc 4 4) = (n - 8) := fun q9 => c32 ((lg_cmp_eq _ _).mpr ((pk_lEQ (a := (nu oc 4 4)) (b := (n - 8)) (by omega) (by omega)).mpr q9))
        refine lv_iconst (v := nI 4) hx hb dFi_firstWrongOfHead_35 (by decide +kernel) ?_
        exact ct_ri hx hb hr hlocks () (Or.inr ⟨fun z => c32 (z.2.1), 4, by decide, rfl⟩) hP hD hS (Nat.le_refl _) (Nat.le_refl _) dFi_firstWrongOfHead_36
    · have c13 : 1 = 0 := (nI_eq (a := 1) (b := 0) (by omega) (by omega)).mp (show nI 1 = nI 0 from c13)
      exact absurd c13 (by decide)
  · rw [if_neg g10] at hw1
    subst hw1
    refine rw_i (y := nI 0) rfl ?_
    refine lv_if_ne (tgt := 18) hx hb dFi_firstWrongOfHead_13 (by decide) (fun c13 => ?_) (fun c13 => ?_)
    · have c13 : ¬ 0 = 0 := fun q9 => c13 (show nI 0 = nI 0 from (nI_eq (a := 0) (b := 0) (by omega) (by omega)).mpr q9)
      exact absurd (by decide) c13
    · have c13 : 0 = 0 := (nI_eq (a := 0) (b := 0) (by omega) (by omega)).mp (show nI 0 = nI 0 from c13)
      refine lv_iconst (v := nI 0) hx hb dFi_firstWrongOfHead_16 (by decide +kernel) ?_
      exact ct_ri hx hb hr hlocks () (Or.inr ⟨fun z => g10 (z.1), 0, by decide, rfl⟩) hP hD hS (Nat.le_refl _) (Nat.le_refl _) dFi_firstWrongOfHead_17
set_option maxHeartbeats 4000000 in
set_option maxRecDepth 100000 in
theorem kFi_firstWrongOfForm (l : Launch) (dC : Nat → ClassId) (dI : Nat → Nat → Nat) (k : Nat → ClassId) (b P : Nat → Nat) (I : Nat → Nat → Int32) (D : Nat → Nat → UInt64) (sz : Nat) (n : Nat) (hn : n ≤ 400) (hn44 : 44 ≤ n) (h3 : I 0 3 = nI n) (oc : Nat → Nat) (ho : ∀ j, j < 400 → I 1 j = nI (oc j) ∧ oc j < 256) : Met l yFi_firstWrongOfForm wFi_firstWrongOfForm ({ frames := 3, cells := 0, slots := 0, locals := 62 }) (va_Pc [.ref (b 1)] (ct_pre (dC, dI) (de_ty k) (fun _ => True) (wd k b P I D) sz)) (va_Qi (fun r (_ : Unit) => (fi_f oc n ∧ r = -1) ∨ ((¬ fi_f oc n) ∧ ∃ j, j ≤ 44 ∧ r = nI j)) (fun u t => ct_at (dC, dI) (va_A (wd k b P I D) sz) ((fun _ => wd k b P I D) u) t) (va_A (wd k b P I D) sz)) 0 0 (va_A (wd k b P I D) sz) := by
  refine Met.ofW (cc := cFi_firstWrongOfForm) (maxL := 1) (ret := (some .int)) (by decide) rfl ?_
  intro p e s m args below meth c s₁ B hml hv
  obtain ⟨rfl, hsz, hP, hK, hD0, hE⟩ := hv
  have hx := B.exec
  have hb := B.bytes
  have hr := B.returns
  have hts : ∀ w ∈ W0, w.before [.ref (b 1)].toArray s = true := fun w h => atoms_spec (ws := wFi_firstWrongOfForm) B.pre w (List.mem_cons_of_mem _ h)
  have hown : s.vm.findClass RFi = some m.cls := findClass_of_methodNamed B.named
  have hlocks := B.notSynchronized
  subst hsz
  have hP0 := hP
  have hD := hD0.self (sz := s.heap.size)
  generalize hAe : va_A (wd k b P I D) s.heap.size = A at hD ⊢
  have hA : ∀ q : Nat, s.heap.size ≤ q → A q := fun q h => by rw [← hAe]; exact Or.inr h
  have hS : va_S A s.heap s.heap [] := va_S.rf
  have hl := lv_entry ([.ref (b 1)]) (n := 1) (Nat.le_of_ble_eq_true rfl)
  rw [lg_entry_eq]
  generalize (lg_sl ([.ref (b 1)]) ++ List.replicate (1 - (lg_sl ([.ref (b 1)])).length) Slot.unset).toArray = ls at hl ⊢
  have hl : lv_has ls 1 [(0, .ref (b 1))] := hl
  have ho2 : ∀ j, j < 400 → oc j < 256 := fun j hj => (ho j hj).2
  refine lv_aload_n hx hb dFi_firstWrongOfForm_0 rfl (lv_at hl 0 rfl) ?_
  refine ct_i (va_runV (As := []) (rest := []) ⟨hx, hb, hml, hown, hts⟩ (kFi_channels l dC dI k b P I D _ oc ho) (cwV 0 hts (gw_V tw_370 tw_372 sl_Fi_channels tw_2 tw_373) rfl rfl rfl (by decide +kernel) ⟨Nat.le_of_ble_eq_true rfl, Nat.le_of_ble_eq_true rfl⟩) ⟨ct_blind (ev := (fun _ => True)) (fun _ _ _ _ h => h), va_recv hK hP (ci := 4) (q0 := 1) rfl rfl, ct_now (ev := (fun _ => True)) (fun _ _ _ => trivial) hP hK hD⟩ rfl rfl hl.1 rfl (lv_room (Nat.le_of_ble_eq_true rfl)) dFi_firstWrongOfForm_1 ⟨Nat.le_of_ble_eq_true rfl, Nat.le_of_ble_eq_true rfl⟩) hD hS hA (fun r1 u1 H locs hw1 hP hD hS => ?_)
  subst hw1
  have b1 := nu_l2 (t := 22) ho2 (by omega)
  refine lv_iconst (v := nI 1) hx hb dFi_firstWrongOfForm_4 (by decide +kernel) ?_
  refine lv_icmp_eq (tgt := 19) hx hb dFi_firstWrongOfForm_5 (by decide) (fun c5 => ?_) (fun c5 => ?_)
  · have c5 : (nu oc 22 2) = 1 := (nI_eq (a := (nu oc 22 2)) (b := 1) (by omega) (by omega)).mp (show nI (nu oc 22 2) = nI 1 from c5)
    refine lv_aload_n hx hb dFi_firstWrongOfForm_19 rfl (lv_at hl 0 rfl) ?_
    refine ct_l (va_runV (As := []) (rest := []) ⟨hx, hb, hml, hown, hts⟩ (kFi_rateSaid l dC dI k b P I D _ oc ho) (cwV 0 hts (gw_V tw_374 tw_375 tw_376 tw_2 tw_377) rfl rfl rfl (by decide +kernel) ⟨Nat.le_of_ble_eq_true rfl, Nat.le_of_ble_eq_true rfl⟩) ⟨ct_blind (ev := (fun _ => True)) (fun _ _ _ _ h => h), va_recv hK hP (ci := 4) (q0 := 1) rfl rfl, ct_now (ev := (fun _ => True)) (fun _ _ _ => trivial) hP hK hD⟩ rfl rfl hl.1 rfl (lv_room (Nat.le_of_ble_eq_true rfl)) dFi_firstWrongOfForm_20 ⟨Nat.le_of_ble_eq_true rfl, Nat.le_of_ble_eq_true rfl⟩) hD hS hA (fun r2 u2 H locs hw2 hP hD hS => ?_)
    subst hw2
    have b20 := nu_l4 (t := 24) ho2 (by omega)
    refine lv_ldc2 (v := 1000) hx hb hown (hts _ tw_378) dFi_firstWrongOfForm_23 ?_
    refine rw_l (y := lN 1000) (by decide +kernel) ?_
    refine W.lcmp hx hb dFi_firstWrongOfForm_26 ?_
    refine lv_if_lt (tgt := 41) hx hb dFi_firstWrongOfForm_27 (by decide) (fun c27 => ?_) (fun c27 => ?_)
    · have c27 : (nu oc 24 4) < 1000 := (pk_lLT (a := (nu oc 24 4)) (b := 1000) (by omega) (by omega)).mp ((lg_cmp_lt _ _).mp c27)
      refine lv_bipush (v := nI 24) hx hb dFi_firstWrongOfForm_41 (by decide +kernel) ?_
      exact ct_ri hx hb hr hlocks () (Or.inr ⟨by first | (exact fun z => absurd c27 (Nat.not_lt.mpr z.2.1)) | (exact fun z => c38 z.2.2.1), 24, by decide, rfl⟩) hP hD hS (Nat.le_refl _) (Nat.le_refl _) dFi_firstWrongOfForm_43
    · have c27 : ¬ (nu oc 24 4) < 1000 := fun q9 => c27 ((lg_cmp_lt _ _).mpr ((pk_lLT (a := (nu oc 24 4)) (b := 1000) (by omega) (by omega)).mpr q9))
      refine lv_aload_n hx hb dFi_firstWrongOfForm_30 rfl (lv_at hl 0 rfl) ?_
      refine ct_l (va_runV (As := []) (rest := []) ⟨hx, hb, hml, hown, hts⟩ (kFi_rateSaid l dC dI k b P I D _ oc ho) (cwV 0 hts (gw_V tw_374 tw_375 tw_376 tw_2 tw_377) rfl rfl rfl (by decide +kernel) ⟨Nat.le_of_ble_eq_true rfl, Nat.le_of_ble_eq_true rfl⟩) ⟨ct_blind (ev := (fun _ => True)) (fun _ _ _ _ h => h), va_recv hK hP (ci := 4) (q0 := 1) rfl rfl, ct_now (ev := (fun _ => True)) (fun _ _ _ => trivial) hP hK hD⟩ rfl rfl hl.1 rfl (lv_room (Nat.le_of_ble_eq_true rfl)) dFi_firstWrongOfForm_31 ⟨Nat.le_of_ble_eq_true rfl, Nat.le_of_ble_eq_true rfl⟩) hD hS hA (fun r3 u3 H locs hw3 hP hD hS => ?_)
      subst hw3
      have b31 := nu_l4 (t := 24) ho2 (by omega)
      refine lv_ldc2 (v := 48000) hx hb hown (hts _ tw_379) dFi_firstWrongOfForm_34 ?_
      refine rw_l (y := lN 48000) (by decide +kernel) ?_
      refine W.lcmp hx hb dFi_firstWrongOfForm_37 ?_
      refine lv_if_le (tgt := 44) hx hb dFi_firstWrongOfForm_38 (by decide) (fun c38 => ?_) (fun c38 => ?_)
      · have c38 : (nu oc 24 4) ≤ 48000 := (pk_lLE (a := (nu oc 24 4)) (b := 48000) (by omega) (by omega)).mp ((lg_cmp_le _ _).mp c38)
        refine lv_aload_n hx hb dFi_firstWrongOfForm_44 rfl (lv_at hl 0 rfl) ?_
        refine lv_bipush (v := nI 28) hx hb dFi_firstWrongOfForm_45 (by decide +kernel) ?_
        refine ct_l (va_runV (As := [.int (nI 28)]) (rest := []) ⟨hx, hb, hml, hown, hts⟩ (kFi_four l dC dI k b P I D _ 28 oc (by omega) ho) (cwV 1 hts (gw_V tw_356 tw_358 sl_Fi_four tw_2 tw_359) rfl rfl rfl (by decide +kernel) ⟨Nat.le_of_ble_eq_true rfl, Nat.le_of_ble_eq_true rfl⟩) ⟨ct_blind (ev := (fun _ => True)) (fun _ _ _ _ h => h), va_recv hK hP (ci := 4) (q0 := 1) rfl rfl, ct_now (ev := (fun _ => True)) (fun _ _ _ => trivial) hP hK hD⟩ rfl rfl hl.1 rfl (lv_room (Nat.le_of_ble_eq_true rfl)) dFi_firstWrongOfForm_47 ⟨Nat.le_of_ble_eq_true rfl, Nat.le_of_ble_eq_true rfl⟩) hD hS hA (fun r4 u4 H locs hw4 hP hD hS => ?_)
        subst hw4
        have b47 := nu_l4 (t := 28) ho2 (by omega)
        refine lv_aload_n hx hb dFi_firstWrongOfForm_50 rfl (lv_at hl 0 rfl) ?_
        refine ct_l (va_runV (As := []) (rest := [.long (lN (nu oc 28 4))]) ⟨hx, hb, hml, hown, hts⟩ (kFi_rateSaid l dC dI k b P I D _ oc ho) (cwV 0 hts (gw_V tw_374 tw_375 tw_376 tw_2 tw_377) rfl rfl rfl (by decide +kernel) ⟨Nat.le_of_ble_eq_true rfl, Nat.le_of_ble_eq_true rfl⟩) ⟨ct_blind (ev := (fun _ => True)) (fun _ _ _ _ h => h), va_recv hK hP (ci := 4) (q0 := 1) rfl rfl, ct_now (ev := (fun _ => True)) (fun _ _ _ => trivial) hP hK hD⟩ rfl rfl hl.1 rfl (lv_room (Nat.le_of_ble_eq_true rfl)) dFi_firstWrongOfForm_51 ⟨Nat.le_of_ble_eq_true rfl, Nat.le_of_ble_eq_true rfl⟩) hD hS hA (fun r5 u5 H locs hw5 hP hD hS => ?_)
        subst hw5
        have b51 := nu_l4 (t := 24) ho2 (by omega)
        refine lv_aload_n hx hb dFi_firstWrongOfForm_54 rfl (lv_at hl 0 rfl) ?_
        refine ct_i (va_runV (As := []) (rest := [.long (lN (nu oc 24 4)), .long (lN (nu oc 28 4))]) ⟨hx, hb, hml, hown, hts⟩ (kFi_width l dC dI k b P I D _ oc ho) (cwV 0 hts (gw_V tw_380 tw_382 sl_Fi_width tw_2 tw_383) rfl rfl rfl (by decide +kernel) ⟨Nat.le_of_ble_eq_true rfl, Nat.le_of_ble_eq_true rfl⟩) ⟨ct_blind (ev := (fun _ => True)) (fun _ _ _ _ h => h), va_recv hK hP (ci := 4) (q0 := 1) rfl rfl, ct_now (ev := (fun _ => True)) (fun _ _ _ => trivial) hP hK hD⟩ rfl rfl hl.1 rfl (lv_room (Nat.le_of_ble_eq_true rfl)) dFi_firstWrongOfForm_55 ⟨Nat.le_of_ble_eq_true rfl, Nat.le_of_ble_eq_true rfl⟩) hD hS hA (fun r6 u6 H locs hw6 hP hD hS => ?_)
        subst hw6
        have b55 := nu_l2 (t := 32) ho2 (by omega)
        refine lv_i2l (v := lN (nu oc 32 2)) hx hb dFi_firstWrongOfForm_58 (nI_l (by omega)) ?_
        have hm1 : nu oc 24 4 * nu oc 32 2 ≤ 4294967296 * 65536 := Nat.mul_le_mul (by omega) (by omega)
        refine lv_lmul hx hb dFi_firstWrongOfForm_59 ?_
        refine rw_l (y := lN ((nu oc 24 4) * (nu oc 32 2))) (lN_mul _ _) ?_
        refine W.lcmp hx hb dFi_firstWrongOfForm_60 ?_
        refine lv_if_eq (tgt := 67) hx hb dFi_firstWrongOfForm_61 (by decide) (fun c61 => ?_) (fun c61 => ?_)
        · have c61 : (nu oc 28 4) = ((nu oc 24 4) * (nu oc 32 2)) := (pk_lEQ (a := (nu oc 28 4)) (b := ((nu oc 24 4) * (nu oc 32 2))) (by omega) (by omega)).mp ((lg_cmp_eq _ _).mp c61)
          refine lv_bipush (v := nI 8) hx hb dFi_firstWrongOfForm_67 (by decide +kernel) ?_
          refine lv_aload_n hx hb dFi_firstWrongOfForm_69 rfl (lv_at hl 0 rfl) ?_
          refine ct_i (va_runV (As := []) (rest := [.int (nI 8)]) ⟨hx, hb, hml, hown, hts⟩ (kFi_width l dC dI k b P I D _ oc ho) (cwV 0 hts (gw_V tw_380 tw_382 sl_Fi_width tw_2 tw_383) rfl rfl rfl (by decide +kernel) ⟨Nat.le_of_ble_eq_true rfl, Nat.le_of_ble_eq_true rfl⟩) ⟨ct_blind (ev := (fun _ => True)) (fun _ _ _ _ h => h), va_recv hK hP (ci := 4) (q0 := 1) rfl rfl, ct_now (ev := (fun _ => True)) (fun _ _ _ => trivial) hP hK hD⟩ rfl rfl hl.1 rfl (lv_room (Nat.le_of_ble_eq_true rfl)) dFi_firstWrongOfForm_70 ⟨Nat.le_of_ble_eq_true rfl, Nat.le_of_ble_eq_true rfl⟩) hD hS hA (fun r7 u7 H locs hw7 hP hD hS => ?_)
          subst hw7
          have b70 := nu_l2 (t := 32) ho2 (by omega)
          refine lv_imul hx hb dFi_firstWrongOfForm_73 ?_
          refine rw_i (y := nI (8 * (nu oc 32 2))) (pk_mul _ _) ?_
          refine lv_aload_n hx hb dFi_firstWrongOfForm_74 rfl (lv_at hl 0 rfl) ?_
          refine ct_i (va_runV (As := []) (rest := [.int (nI (8 * (nu oc 32 2)))]) ⟨hx, hb, hml, hown, hts⟩ (kFi_channels l dC dI k b P I D _ oc ho) (cwV 0 hts (gw_V tw_370 tw_372 sl_Fi_channels tw_2 tw_373) rfl rfl rfl (by decide +kernel) ⟨Nat.le_of_ble_eq_true rfl, Nat.le_of_ble_eq_true rfl⟩) ⟨ct_blind (ev := (fun _ => True)) (fun _ _ _ _ h => h), va_recv hK hP (ci := 4) (q0 := 1) rfl rfl, ct_now (ev := (fun _ => True)) (fun _ _ _ => trivial) hP hK hD⟩ rfl rfl hl.1 rfl (lv_room (Nat.le_of_ble_eq_true rfl)) dFi_firstWrongOfForm_75 ⟨Nat.le_of_ble_eq_true rfl, Nat.le_of_ble_eq_true rfl⟩) hD hS hA (fun r8 u8 H locs hw8 hP hD hS => ?_)
          subst hw8
          have b75 := nu_l2 (t := 22) ho2 (by omega)
          refine lv_aload_n hx hb dFi_firstWrongOfForm_78 rfl (lv_at hl 0 rfl) ?_
          refine ct_i (va_runV (As := []) (rest := [.int (nI (nu oc 22 2)), .int (nI (8 * (nu oc 32 2)))]) ⟨hx, hb, hml, hown, hts⟩ (kFi_bits l dC dI k b P I D _ oc ho) (cwV 0 hts (gw_V tw_384 tw_386 sl_Fi_bits tw_2 tw_387) rfl rfl rfl (by decide +kernel) ⟨Nat.le_of_ble_eq_true rfl, Nat.le_of_ble_eq_true rfl⟩) ⟨ct_blind (ev := (fun _ => True)) (fun _ _ _ _ h => h), va_recv hK hP (ci := 4) (q0 := 1) rfl rfl, ct_now (ev := (fun _ => True)) (fun _ _ _ => trivial) hP hK hD⟩ rfl rfl hl.1 rfl (lv_room (Nat.le_of_ble_eq_true rfl)) dFi_firstWrongOfForm_79 ⟨Nat.le_of_ble_eq_true rfl, Nat.le_of_ble_eq_true rfl⟩) hD hS hA (fun r9 u9 H locs hw9 hP hD hS => ?_)
          subst hw9
          have b79 := nu_l2 (t := 34) ho2 (by omega)
          have hch : nu oc 22 2 = 1 ∨ nu oc 22 2 = 2 := (by first | exact Or.inl c5 | exact Or.inr c13)
          have hm2 : nu oc 22 2 * nu oc 34 2 ≤ 2 * 65536 := Nat.mul_le_mul (by omega) (by omega)
          refine lv_imul hx hb dFi_firstWrongOfForm_82 ?_
          refine rw_i (y := nI ((nu oc 22 2) * (nu oc 34 2))) (pk_mul _ _) ?_
          refine lv_icmp_eq (tgt := 89) hx hb dFi_firstWrongOfForm_83 (by decide) (fun c83 => ?_) (fun c83 => ?_)
          · have c83 : (8 * (nu oc 32 2)) = ((nu oc 22 2) * (nu oc 34 2)) := (nI_eq (a := (8 * (nu oc 32 2))) (b := ((nu oc 22 2) * (nu oc 34 2))) (by omega) (by omega)).mp (show nI (8 * (nu oc 32 2)) = nI ((nu oc 22 2) * (nu oc 34 2)) from c83)
            refine lv_aload_n hx hb dFi_firstWrongOfForm_89 rfl (lv_at hl 0 rfl) ?_
            refine ct_i (va_runV (As := []) (rest := []) ⟨hx, hb, hml, hown, hts⟩ (kFi_bits l dC dI k b P I D _ oc ho) (cwV 0 hts (gw_V tw_384 tw_386 sl_Fi_bits tw_2 tw_387) rfl rfl rfl (by decide +kernel) ⟨Nat.le_of_ble_eq_true rfl, Nat.le_of_ble_eq_true rfl⟩) ⟨ct_blind (ev := (fun _ => True)) (fun _ _ _ _ h => h), va_recv hK hP (ci := 4) (q0 := 1) rfl rfl, ct_now (ev := (fun _ => True)) (fun _ _ _ => trivial) hP hK hD⟩ rfl rfl hl.1 rfl (lv_room (Nat.le_of_ble_eq_true rfl)) dFi_firstWrongOfForm_90 ⟨Nat.le_of_ble_eq_true rfl, Nat.le_of_ble_eq_true rfl⟩) hD hS hA (fun r10 u10 H locs hw10 hP hD hS => ?_)
            subst hw10
            have b90 := nu_l2 (t := 34) ho2 (by omega)
            refine lv_bipush (v := nI 8) hx hb dFi_firstWrongOfForm_93 (by decide +kernel) ?_
            refine lv_icmp_eq (tgt := 110) hx hb dFi_firstWrongOfForm_95 (by decide) (fun c95 => ?_) (fun c95 => ?_)
            · have c95 : (nu oc 34 2) = 8 := (nI_eq (a := (nu oc 34 2)) (b := 8) (by omega) (by omega)).mp (show nI (nu oc 34 2) = nI 8 from c95)
              refine lv_aload_n hx hb dFi_firstWrongOfForm_110 rfl (lv_at hl 0 rfl) ?_
              refine lv_bipush (v := nI 36) hx hb dFi_firstWrongOfForm_111 (by decide +kernel) ?_
              refine lv_bipush (v := nI 100) hx hb dFi_firstWrongOfForm_113 (by decide +kernel) ?_
              refine lv_bipush (v := nI 97) hx hb dFi_firstWrongOfForm_115 (by decide +kernel) ?_
              refine lv_bipush (v := nI 116) hx hb dFi_firstWrongOfForm_117 (by decide +kernel) ?_
              refine lv_bipush (v := nI 97) hx hb dFi_firstWrongOfForm_119 (by decide +kernel) ?_
              refine ct_i (va_runV (As := [.int (nI 36), .int (nI 100), .int (nI 97), .int (nI 116), .int (nI 97)]) (rest := []) ⟨hx, hb, hml, hown, hts⟩ (kFi_spells l dC dI k b P I D _ 36 100 97 116 97 oc (by decide) ho (by decide) (by decide) (by decide) (by decide)) (cwV 5 hts (gw_V tw_352 tw_354 sl_Fi_spells tw_2 tw_355) rfl rfl rfl (by decide +kernel) ⟨Nat.le_of_ble_eq_true rfl, Nat.le_of_ble_eq_true rfl⟩) ⟨ct_blind (ev := (fun _ => True)) (fun _ _ _ _ h => h), va_recv hK hP (ci := 4) (q0 := 1) rfl rfl, ct_now (ev := (fun _ => True)) (fun _ _ _ => trivial) hP hK hD⟩ rfl rfl hl.1 rfl (lv_room (Nat.le_of_ble_eq_true rfl)) dFi_firstWrongOfForm_121 ⟨Nat.le_of_ble_eq_true rfl, Nat.le_of_ble_eq_true rfl⟩) hD hS hA (fun r11 u11 H locs hw11 hP hD hS => ?_)
              by_cases g121 : fi_sp oc 36 100 97 116 97
              · rw [if_pos g121] at hw11
                subst hw11
                refine rw_i (y := nI 1) rfl ?_
                refine lv_if_ne (tgt := 130) hx hb dFi_firstWrongOfForm_124 (by decide) (fun c124 => ?_) (fun c124 => ?_)
                · have c124 : ¬ 1 = 0 := fun q9 => c124 (show nI 1 = nI 0 from (nI_eq (a := 1) (b := 0) (by omega) (by omega)).mpr q9)
                  refine lv_aload_n hx hb dFi_firstWrongOfForm_130 rfl (lv_at hl 0 rfl) ?_
                  refine lv_bipush (v := nI 40) hx hb dFi_firstWrongOfForm_131 (by decide +kernel) ?_
                  refine ct_l (va_runV (As := [.int (nI 40)]) (rest := []) ⟨hx, hb, hml, hown, hts⟩ (kFi_four l dC dI k b P I D _ 40 oc (by omega) ho) (cwV 1 hts (gw_V tw_356 tw_358 sl_Fi_four tw_2 tw_359) rfl rfl rfl (by decide +kernel) ⟨Nat.le_of_ble_eq_true rfl, Nat.le_of_ble_eq_true rfl⟩) ⟨ct_blind (ev := (fun _ => True)) (fun _ _ _ _ h => h), va_recv hK hP (ci := 4) (q0 := 1) rfl rfl, ct_now (ev := (fun _ => True)) (fun _ _ _ => trivial) hP hK hD⟩ rfl rfl hl.1 rfl (lv_room (Nat.le_of_ble_eq_true rfl)) dFi_firstWrongOfForm_133 ⟨Nat.le_of_ble_eq_true rfl, Nat.le_of_ble_eq_true rfl⟩) hD hS hA (fun r12 u12 H locs hw12 hP hD hS => ?_)
                  subst hw12
                  have b133 := nu_l4 (t := 40) ho2 (by omega)
                  refine lv_aload_n hx hb dFi_firstWrongOfForm_136 rfl (lv_at hl 0 rfl) ?_
                  refine va_get (D := (dC, dI)) (ci := 4) (v := .int (I 0 3)) (C := RFi) (T := TFi) (N := 2) hx hb hts inFi hown hK hP 1 rfl rfl 1 (by decide) (hts _ tw_34) (fun _ h9 => h9) rfl dFi_firstWrongOfForm_137 ?_
                  refine rw_i (y := nI n) h3 ?_
                  refine lv_bipush (v := nI 44) hx hb dFi_firstWrongOfForm_140 (by decide +kernel) ?_
                  refine lv_isub hx hb dFi_firstWrongOfForm_142 ?_
                  refine rw_i (y := nI (n - 44)) (pk_sub (by omega)) ?_
                  refine lv_i2l (v := lN (n - 44)) hx hb dFi_firstWrongOfForm_143 (nI_l (by omega)) ?_
                  refine W.lcmp hx hb dFi_firstWrongOfForm_144 ?_
                  refine lv_if_ne (tgt := 163) hx hb dFi_firstWrongOfForm_145 (by decide) (fun c145 => ?_) (fun c145 => ?_)
                  · have c145 : ¬ (nu oc 40 4) = (n - 44) := fun q9 => c145 ((lg_cmp_eq _ _).mpr ((pk_lEQ (a := (nu oc 40 4)) (b := (n - 44)) (by omega) (by omega)).mpr q9))
                    refine lv_bipush (v := nI 40) hx hb dFi_firstWrongOfForm_163 (by decide +kernel) ?_
                    refine lv_goto (tgt := 169) hx hb dFi_firstWrongOfForm_165 (by decide) ?_
                    exact ct_ri hx hb hr hlocks () (Or.inr ⟨by first | (exact fun z => c145 (z.2.2.2.2.2.2.2.1)) | (exact fun z => c160 (z.2.2.2.2.2.2.2.2)), 40, by decide, rfl⟩) hP hD hS (Nat.le_refl _) (Nat.le_refl _) dFi_firstWrongOfForm_169
                  · have c145 : (nu oc 40 4) = (n - 44) := (pk_lEQ (a := (nu oc 40 4)) (b := (n - 44)) (by omega) (by omega)).mp ((lg_cmp_eq _ _).mp c145)
                    refine lv_aload_n hx hb dFi_firstWrongOfForm_148 rfl (lv_at hl 0 rfl) ?_
                    refine va_get (D := (dC, dI)) (ci := 4) (v := .int (I 0 3)) (C := RFi) (T := TFi) (N := 2) hx hb hts inFi hown hK hP 1 rfl rfl 1 (by decide) (hts _ tw_34) (fun _ h9 => h9) rfl dFi_firstWrongOfForm_149 ?_
                    refine rw_i (y := nI n) h3 ?_
                    refine lv_bipush (v := nI 44) hx hb dFi_firstWrongOfForm_152 (by decide +kernel) ?_
                    refine lv_isub hx hb dFi_firstWrongOfForm_154 ?_
                    refine rw_i (y := nI (n - 44)) (pk_sub (by omega)) ?_
                    refine lv_aload_n hx hb dFi_firstWrongOfForm_155 rfl (lv_at hl 0 rfl) ?_
                    refine ct_i (va_runV (As := []) (rest := [.int (nI (n - 44))]) ⟨hx, hb, hml, hown, hts⟩ (kFi_width l dC dI k b P I D _ oc ho) (cwV 0 hts (gw_V tw_380 tw_382 sl_Fi_width tw_2 tw_383) rfl rfl rfl (by decide +kernel) ⟨Nat.le_of_ble_eq_true rfl, Nat.le_of_ble_eq_true rfl⟩) ⟨ct_blind (ev := (fun _ => True)) (fun _ _ _ _ h => h), va_recv hK hP (ci := 4) (q0 := 1) rfl rfl, ct_now (ev := (fun _ => True)) (fun _ _ _ => trivial) hP hK hD⟩ rfl rfl hl.1 rfl (lv_room (Nat.le_of_ble_eq_true rfl)) dFi_firstWrongOfForm_156 ⟨Nat.le_of_ble_eq_true rfl, Nat.le_of_ble_eq_true rfl⟩) hD hS hA (fun r13 u13 H locs hw13 hP hD hS => ?_)
                    subst hw13
                    have b156 := nu_l2 (t := 32) ho2 (by omega)
                    have hw1 := fi_w hch c83 (by first | exact Or.inl c95 | exact Or.inr c104)
                    have hm3 := Nat.mod_lt (n - 44) (show nu oc 32 2 > 0 by omega)
                    refine lv_irem hx hb dFi_firstWrongOfForm_159 (nI_ne0 (by omega) (by omega)) ?_
                    refine rw_i (y := nI ((n - 44) % (nu oc 32 2))) (pk_rem (by omega) (by omega) (by omega)) ?_
                    refine lv_if_eq (tgt := 168) hx hb dFi_firstWrongOfForm_160 (by decide) (fun c160 => ?_) (fun c160 => ?_)
                    · have c160 : ((n - 44) % (nu oc 32 2)) = 0 := (nI_eq (a := ((n - 44) % (nu oc 32 2))) (b := 0) (by omega) (by omega)).mp (show nI ((n - 44) % (nu oc 32 2)) = nI 0 from c160)
                      refine lv_iconst (v := (-1)) hx hb dFi_firstWrongOfForm_168 (by decide +kernel) ?_
                      exact ct_ri hx hb hr hlocks () (Or.inl ⟨⟨hch, by omega, by omega, c61, c83, (by first | exact Or.inl c95 | exact Or.inr c104), g121, c145, c160⟩, rfl⟩) hP hD hS (Nat.le_refl _) (Nat.le_refl _) dFi_firstWrongOfForm_169
                    · have c160 : ¬ ((n - 44) % (nu oc 32 2)) = 0 := fun q9 => c160 (show nI ((n - 44) % (nu oc 32 2)) = nI 0 from (nI_eq (a := ((n - 44) % (nu oc 32 2))) (b := 0) (by omega) (by omega)).mpr q9)
                      refine lv_bipush (v := nI 40) hx hb dFi_firstWrongOfForm_163 (by decide +kernel) ?_
                      refine lv_goto (tgt := 169) hx hb dFi_firstWrongOfForm_165 (by decide) ?_
                      exact ct_ri hx hb hr hlocks () (Or.inr ⟨by first | (exact fun z => c145 (z.2.2.2.2.2.2.2.1)) | (exact fun z => c160 (z.2.2.2.2.2.2.2.2)), 40, by decide, rfl⟩) hP hD hS (Nat.le_refl _) (Nat.le_refl _) dFi_firstWrongOfForm_169
                · have c124 : 1 = 0 := (nI_eq (a := 1) (b := 0) (by omega) (by omega)).mp (show nI 1 = nI 0 from c124)
                  exact absurd c124 (by decide)
              · rw [if_neg g121] at hw11
                subst hw11
                refine rw_i (y := nI 0) rfl ?_
                refine lv_if_ne (tgt := 130) hx hb dFi_firstWrongOfForm_124 (by decide) (fun c124 => ?_) (fun c124 => ?_)
                · have c124 : ¬ 0 = 0 := fun q9 => c124 (show nI 0 = nI 0 from (nI_eq (a := 0) (b := 0) (by omega) (by omega)).mpr q9)
                  exact absurd (by decide) c124
                · have c124 : 0 = 0 := (nI_eq (a := 0) (b := 0) (by omega) (by omega)).mp (show nI 0 = nI 0 from c124)
                  refine lv_bipush (v := nI 36) hx hb dFi_firstWrongOfForm_127 (by decide +kernel) ?_
                  exact ct_ri hx hb hr hlocks () (Or.inr ⟨fun z => g121 (z.2.2.2.2.2.2.1), 36, by decide, rfl⟩) hP hD hS (Nat.le_refl _) (Nat.le_refl _) dFi_firstWrongOfForm_129
            · have c95 : ¬ (nu oc 34 2) = 8 := fun q9 => c95 (show nI (nu oc 34 2) = nI 8 from (nI_eq (a := (nu oc 34 2)) (b := 8) (by omega) (by omega)).mpr q9)
              refine lv_aload_n hx hb dFi_firstWrongOfForm_98 rfl (lv_at hl 0 rfl) ?_
              refine ct_i (va_runV (As := []) (rest := []) ⟨hx, hb, hml, hown, hts⟩ (kFi_bits l dC dI k b P I D _ oc ho) (cwV 0 hts (gw_V tw_384 tw_386 sl_Fi_bits tw_2 tw_387) rfl rfl rfl (by decide +kernel) ⟨Nat.le_of_ble_eq_true rfl, Nat.le_of_ble_eq_true rfl⟩) ⟨ct_blind (ev := (fun _ => True)) (fun _ _ _ _ h => h), va_recv hK hP (ci := 4) (q0 := 1) rfl rfl, ct_now (ev := (fun _ => True)) (fun _ _ _ => trivial) hP hK hD⟩ rfl rfl hl.1 rfl (lv_room (Nat.le_of_ble_eq_true rfl)) dFi_firstWrongOfForm_99 ⟨Nat.le_of_ble_eq_true rfl, Nat.le_of_ble_eq_true rfl⟩) hD hS hA (fun r14 u14 H locs hw14 hP hD hS => ?_)
              subst hw14
              have b99 := nu_l2 (t := 34) ho2 (by omega)
              refine lv_bipush (v := nI 16) hx hb dFi_firstWrongOfForm_102 (by decide +kernel) ?_
              refine lv_icmp_eq (tgt := 110) hx hb dFi_firstWrongOfForm_104 (by decide) (fun c104 => ?_) (fun c104 => ?_)
              · have c104 : (nu oc 34 2) = 16 := (nI_eq (a := (nu oc 34 2)) (b := 16) (by omega) (by omega)).mp (show nI (nu oc 34 2) = nI 16 from c104)
                refine lv_aload_n hx hb dFi_firstWrongOfForm_110 rfl (lv_at hl 0 rfl) ?_
                refine lv_bipush (v := nI 36) hx hb dFi_firstWrongOfForm_111 (by decide +kernel) ?_
                refine lv_bipush (v := nI 100) hx hb dFi_firstWrongOfForm_113 (by decide +kernel) ?_
                refine lv_bipush (v := nI 97) hx hb dFi_firstWrongOfForm_115 (by decide +kernel) ?_
                refine lv_bipush (v := nI 116) hx hb dFi_firstWrongOfForm_117 (by decide +kernel) ?_
                refine lv_bipush (v := nI 97) hx hb dFi_firstWrongOfForm_119 (by decide +kernel) ?_
                refine ct_i (va_runV (As := [.int (nI 36), .int (nI 100), .int (nI 97), .int (nI 116), .int (nI 97)]) (rest := []) ⟨hx, hb, hml, hown, hts⟩ (kFi_spells l dC dI k b P I D _ 36 100 97 116 97 oc (by decide) ho (by decide) (by decide) (by decide) (by decide)) (cwV 5 hts (gw_V tw_352 tw_354 sl_Fi_spells tw_2 tw_355) rfl rfl rfl (by decide +kernel) ⟨Nat.le_of_ble_eq_true rfl, Nat.le_of_ble_eq_true rfl⟩) ⟨ct_blind (ev := (fun _ => True)) (fun _ _ _ _ h => h), va_recv hK hP (ci := 4) (q0 := 1) rfl rfl, ct_now (ev := (fun _ => True)) (fun _ _ _ => trivial) hP hK hD⟩ rfl rfl hl.1 rfl (lv_room (Nat.le_of_ble_eq_true rfl)) dFi_firstWrongOfForm_121 ⟨Nat.le_of_ble_eq_true rfl, Nat.le_of_ble_eq_true rfl⟩) hD hS hA (fun r15 u15 H locs hw15 hP hD hS => ?_)
                by_cases g121 : fi_sp oc 36 100 97 116 97
                · rw [if_pos g121] at hw15
                  subst hw15
                  refine rw_i (y := nI 1) rfl ?_
                  refine lv_if_ne (tgt := 130) hx hb dFi_firstWrongOfForm_124 (by decide) (fun c124 => ?_) (fun c124 => ?_)
                  · have c124 : ¬ 1 = 0 := fun q9 => c124 (show nI 1 = nI 0 from (nI_eq (a := 1) (b := 0) (by omega) (by omega)).mpr q9)
                    refine lv_aload_n hx hb dFi_firstWrongOfForm_130 rfl (lv_at hl 0 rfl) ?_
                    refine lv_bipush (v := nI 40) hx hb dFi_firstWrongOfForm_131 (by decide +kernel) ?_
                    refine ct_l (va_runV (As := [.int (nI 40)]) (rest := []) ⟨hx, hb, hml, hown, hts⟩ (kFi_four l dC dI k b P I D _ 40 oc (by omega) ho) (cwV 1 hts (gw_V tw_356 tw_358 sl_Fi_four tw_2 tw_359) rfl rfl rfl (by decide +kernel) ⟨Nat.le_of_ble_eq_true rfl, Nat.le_of_ble_eq_true rfl⟩) ⟨ct_blind (ev := (fun _ => True)) (fun _ _ _ _ h => h), va_recv hK hP (ci := 4) (q0 := 1) rfl rfl, ct_now (ev := (fun _ => True)) (fun _ _ _ => trivial) hP hK hD⟩ rfl rfl hl.1 rfl (lv_room (Nat.le_of_ble_eq_true rfl)) dFi_firstWrongOfForm_133 ⟨Nat.le_of_ble_eq_true rfl, Nat.le_of_ble_eq_true rfl⟩) hD hS hA (fun r16 u16 H locs hw16 hP hD hS => ?_)
                    subst hw16
                    have b133 := nu_l4 (t := 40) ho2 (by omega)
                    refine lv_aload_n hx hb dFi_firstWrongOfForm_136 rfl (lv_at hl 0 rfl) ?_
                    refine va_get (D := (dC, dI)) (ci := 4) (v := .int (I 0 3)) (C := RFi) (T := TFi) (N := 2) hx hb hts inFi hown hK hP 1 rfl rfl 1 (by decide) (hts _ tw_34) (fun _ h9 => h9) rfl dFi_firstWrongOfForm_137 ?_
                    refine rw_i (y := nI n) h3 ?_
                    refine lv_bipush (v := nI 44) hx hb dFi_firstWrongOfForm_140 (by decide +kernel) ?_
                    refine lv_isub hx hb dFi_firstWrongOfForm_142 ?_
                    refine rw_i (y := nI (n - 44)) (pk_sub (by omega)) ?_
                    refine lv_i2l (v := lN (n - 44)) hx hb dFi_firstWrongOfForm_143 (nI_l (by omega)) ?_
                    refine W.lcmp hx hb dFi_firstWrongOfForm_144 ?_
                    refine lv_if_ne (tgt := 163) hx hb dFi_firstWrongOfForm_145 (by decide) (fun c145 => ?_) (fun c145 => ?_)
                    · have c145 : ¬ (nu oc 40 4) = (n - 44) := fun q9 => c145 ((lg_cmp_eq _ _).mpr ((pk_lEQ (a := (nu oc 40 4)) (b := (n - 44)) (by omega) (by omega)).mpr q9))
                      refine lv_bipush (v := nI 40) hx hb dFi_firstWrongOfForm_163 (by decide +kernel) ?_
                      refine lv_goto (tgt := 169) hx hb dFi_firstWrongOfForm_165 (by decide) ?_
                      exact ct_ri hx hb hr hlocks () (Or.inr ⟨by first | (exact fun z => c145 (z.2.2.2.2.2.2.2.1)) | (exact fun z => c160 (z.2.2.2.2.2.2.2.2)), 40, by decide, rfl⟩) hP hD hS (Nat.le_refl _) (Nat.le_refl _) dFi_firstWrongOfForm_169
                    · have c145 : (nu oc 40 4) = (n - 44) := (pk_lEQ (a := (nu oc 40 4)) (b := (n - 44)) (by omega) (by omega)).mp ((lg_cmp_eq _ _).mp c145)
                      refine lv_aload_n hx hb dFi_firstWrongOfForm_148 rfl (lv_at hl 0 rfl) ?_
                      refine va_get (D := (dC, dI)) (ci := 4) (v := .int (I 0 3)) (C := RFi) (T := TFi) (N := 2) hx hb hts inFi hown hK hP 1 rfl rfl 1 (by decide) (hts _ tw_34) (fun _ h9 => h9) rfl dFi_firstWrongOfForm_149 ?_
                      refine rw_i (y := nI n) h3 ?_
                      refine lv_bipush (v := nI 44) hx hb dFi_firstWrongOfForm_152 (by decide +kernel) ?_
                      refine lv_isub hx hb dFi_firstWrongOfForm_154 ?_
                      refine rw_i (y := nI (n - 44)) (pk_sub (by omega)) ?_
                      refine lv_aload_n hx hb dFi_firstWrongOfForm_155 rfl (lv_at hl 0 rfl) ?_
                      refine ct_i (va_runV (As := []) (rest := [.int (nI (n - 44))]) ⟨hx, hb, hml, hown, hts⟩ (kFi_width l dC dI k b P I D _ oc ho) (cwV 0 hts (gw_V tw_380 tw_382 sl_Fi_width tw_2 tw_383) rfl rfl rfl (by decide +kernel) ⟨Nat.le_of_ble_eq_true rfl, Nat.le_of_ble_eq_true rfl⟩) ⟨ct_blind (ev := (fun _ => True)) (fun _ _ _ _ h => h), va_recv hK hP (ci := 4) (q0 := 1) rfl rfl, ct_now (ev := (fun _ => True)) (fun _ _ _ => trivial) hP hK hD⟩ rfl rfl hl.1 rfl (lv_room (Nat.le_of_ble_eq_true rfl)) dFi_firstWrongOfForm_156 ⟨Nat.le_of_ble_eq_true rfl, Nat.le_of_ble_eq_true rfl⟩) hD hS hA (fun r17 u17 H locs hw17 hP hD hS => ?_)
                      subst hw17
                      have b156 := nu_l2 (t := 32) ho2 (by omega)
                      have hw1 := fi_w hch c83 (by first | exact Or.inl c95 | exact Or.inr c104)
                      have hm3 := Nat.mod_lt (n - 44) (show nu oc 32 2 > 0 by omega)
                      refine lv_irem hx hb dFi_firstWrongOfForm_159 (nI_ne0 (by omega) (by omega)) ?_
                      refine rw_i (y := nI ((n - 44) % (nu oc 32 2))) (pk_rem (by omega) (by omega) (by omega)) ?_
                      refine lv_if_eq (tgt := 168) hx hb dFi_firstWrongOfForm_160 (by decide) (fun c160 => ?_) (fun c160 => ?_)
                      · have c160 : ((n - 44) % (nu oc 32 2)) = 0 := (nI_eq (a := ((n - 44) % (nu oc 32 2))) (b := 0) (by omega) (by omega)).mp (show nI ((n - 44) % (nu oc 32 2)) = nI 0 from c160)
                        refine lv_iconst (v := (-1)) hx hb dFi_firstWrongOfForm_168 (by decide +kernel) ?_
                        exact ct_ri hx hb hr hlocks () (Or.inl ⟨⟨hch, by omega, by omega, c61, c83, (by first | exact Or.inl c95 | exact Or.inr c104), g121, c145, c160⟩, rfl⟩) hP hD hS (Nat.le_refl _) (Nat.le_refl _) dFi_firstWrongOfForm_169
                      · have c160 : ¬ ((n - 44) % (nu oc 32 2)) = 0 := fun q9 => c160 (show nI ((n - 44) % (nu oc 32 2)) = nI 0 from (nI_eq (a := ((n - 44) % (nu oc 32 2))) (b := 0) (by omega) (by omega)).mpr q9)
                        refine lv_bipush (v := nI 40) hx hb dFi_firstWrongOfForm_163 (by decide +kernel) ?_
                        refine lv_goto (tgt := 169) hx hb dFi_firstWrongOfForm_165 (by decide) ?_
                        exact ct_ri hx hb hr hlocks () (Or.inr ⟨by first | (exact fun z => c145 (z.2.2.2.2.2.2.2.1)) | (exact fun z => c160 (z.2.2.2.2.2.2.2.2)), 40, by decide, rfl⟩) hP hD hS (Nat.le_refl _) (Nat.le_refl _) dFi_firstWrongOfForm_169
                  · have c124 : 1 = 0 := (nI_eq (a := 1) (b := 0) (by omega) (by omega)).mp (show nI 1 = nI 0 from c124)
                    exact absurd c124 (by decide)
                · rw [if_neg g121] at hw15
                  subst hw15
                  refine rw_i (y := nI 0) rfl ?_
                  refine lv_if_ne (tgt := 130) hx hb dFi_firstWrongOfForm_124 (by decide) (fun c124 => ?_) (fun c124 => ?_)
                  · have c124 : ¬ 0 = 0 := fun q9 => c124 (show nI 0 = nI 0 from (nI_eq (a := 0) (b := 0) (by omega) (by omega)).mpr q9)
                    exact absurd (by decide) c124
                  · have c124 : 0 = 0 := (nI_eq (a := 0) (b := 0) (by omega) (by omega)).mp (show nI 0 = nI 0 from c124)
                    refine lv_bipush (v := nI 36) hx hb dFi_firstWrongOfForm_127 (by decide +kernel) ?_
                    exact ct_ri hx hb hr hlocks () (Or.inr ⟨fun z => g121 (z.2.2.2.2.2.2.1), 36, by decide, rfl⟩) hP hD hS (Nat.le_refl _) (Nat.le_refl _) dFi_firstWrongOfForm_129
              · have c104 : ¬ (nu oc 34 2) = 16 := fun q9 => c104 (show nI (nu oc 34 2) = nI 16 from (nI_eq (a := (nu oc 34 2)) (b := 16) (by omega) (by omega)).mpr q9)
                refine lv_bipush (v := nI 34) hx hb dFi_firstWrongOfForm_107 (by decide +kernel) ?_
                exact ct_ri hx hb hr hlocks () (Or.inr ⟨fun z => (z.2.2.2.2.2.1).elim c95 c104, 34, by decide, rfl⟩) hP hD hS (Nat.le_refl _) (Nat.le_refl _) dFi_firstWrongOfForm_109
          · have c83 : ¬ (8 * (nu oc 32 2)) = ((nu oc 22 2) * (nu oc 34 2)) := fun q9 => c83 (show nI (8 * (nu oc 32 2)) = nI ((nu oc 22 2) * (nu oc 34 2)) from (nI_eq (a := (8 * (nu oc 32 2))) (b := ((nu oc 22 2) * (nu oc 34 2))) (by omega) (by omega)).mpr q9)
            refine lv_bipush (v := nI 32) hx hb dFi_firstWrongOfForm_86 (by decide +kernel) ?_
            exact ct_ri hx hb hr hlocks () (Or.inr ⟨fun z => c83 (z.2.2.2.2.1), 32, by decide, rfl⟩) hP hD hS (Nat.le_refl _) (Nat.le_refl _) dFi_firstWrongOfForm_88
        · have c61 : ¬ (nu oc 28 4) = ((nu oc 24 4) * (nu oc 32 2)) := fun q9 => c61 ((lg_cmp_eq _ _).mpr ((pk_lEQ (a := (nu oc 28 4)) (b := ((nu oc 24 4) * (nu oc 32 2))) (by omega) (by omega)).mpr q9))
          refine lv_bipush (v := nI 28) hx hb dFi_firstWrongOfForm_64 (by decide +kernel) ?_
          exact ct_ri hx hb hr hlocks () (Or.inr ⟨fun z => c61 (z.2.2.2.1), 28, by decide, rfl⟩) hP hD hS (Nat.le_refl _) (Nat.le_refl _) dFi_firstWrongOfForm_66
      · have c38 : ¬ (nu oc 24 4) ≤ 48000 := fun q9 => c38 ((lg_cmp_le _ _).mpr ((pk_lLE (a := (nu oc 24 4)) (b := 48000) (by omega) (by omega)).mpr q9))
        refine lv_bipush (v := nI 24) hx hb dFi_firstWrongOfForm_41 (by decide +kernel) ?_
        exact ct_ri hx hb hr hlocks () (Or.inr ⟨by first | (exact fun z => absurd c27 (Nat.not_lt.mpr z.2.1)) | (exact fun z => c38 z.2.2.1), 24, by decide, rfl⟩) hP hD hS (Nat.le_refl _) (Nat.le_refl _) dFi_firstWrongOfForm_43
  · have c5 : ¬ (nu oc 22 2) = 1 := fun q9 => c5 (show nI (nu oc 22 2) = nI 1 from (nI_eq (a := (nu oc 22 2)) (b := 1) (by omega) (by omega)).mpr q9)
    refine lv_aload_n hx hb dFi_firstWrongOfForm_8 rfl (lv_at hl 0 rfl) ?_
    refine ct_i (va_runV (As := []) (rest := []) ⟨hx, hb, hml, hown, hts⟩ (kFi_channels l dC dI k b P I D _ oc ho) (cwV 0 hts (gw_V tw_370 tw_372 sl_Fi_channels tw_2 tw_373) rfl rfl rfl (by decide +kernel) ⟨Nat.le_of_ble_eq_true rfl, Nat.le_of_ble_eq_true rfl⟩) ⟨ct_blind (ev := (fun _ => True)) (fun _ _ _ _ h => h), va_recv hK hP (ci := 4) (q0 := 1) rfl rfl, ct_now (ev := (fun _ => True)) (fun _ _ _ => trivial) hP hK hD⟩ rfl rfl hl.1 rfl (lv_room (Nat.le_of_ble_eq_true rfl)) dFi_firstWrongOfForm_9 ⟨Nat.le_of_ble_eq_true rfl, Nat.le_of_ble_eq_true rfl⟩) hD hS hA (fun r18 u18 H locs hw18 hP hD hS => ?_)
    subst hw18
    have b9 := nu_l2 (t := 22) ho2 (by omega)
    refine lv_iconst (v := nI 2) hx hb dFi_firstWrongOfForm_12 (by decide +kernel) ?_
    refine lv_icmp_eq (tgt := 19) hx hb dFi_firstWrongOfForm_13 (by decide) (fun c13 => ?_) (fun c13 => ?_)
    · have c13 : (nu oc 22 2) = 2 := (nI_eq (a := (nu oc 22 2)) (b := 2) (by omega) (by omega)).mp (show nI (nu oc 22 2) = nI 2 from c13)
      refine lv_aload_n hx hb dFi_firstWrongOfForm_19 rfl (lv_at hl 0 rfl) ?_
      refine ct_l (va_runV (As := []) (rest := []) ⟨hx, hb, hml, hown, hts⟩ (kFi_rateSaid l dC dI k b P I D _ oc ho) (cwV 0 hts (gw_V tw_374 tw_375 tw_376 tw_2 tw_377) rfl rfl rfl (by decide +kernel) ⟨Nat.le_of_ble_eq_true rfl, Nat.le_of_ble_eq_true rfl⟩) ⟨ct_blind (ev := (fun _ => True)) (fun _ _ _ _ h => h), va_recv hK hP (ci := 4) (q0 := 1) rfl rfl, ct_now (ev := (fun _ => True)) (fun _ _ _ => trivial) hP hK hD⟩ rfl rfl hl.1 rfl (lv_room (Nat.le_of_ble_eq_true rfl)) dFi_firstWrongOfForm_20 ⟨Nat.le_of_ble_eq_true rfl, Nat.le_of_ble_eq_true rfl⟩) hD hS hA (fun r19 u19 H locs hw19 hP hD hS => ?_)
      subst hw19
      have b20 := nu_l4 (t := 24) ho2 (by omega)
      refine lv_ldc2 (v := 1000) hx hb hown (hts _ tw_378) dFi_firstWrongOfForm_23 ?_
      refine rw_l (y := lN 1000) (by decide +kernel) ?_
      refine W.lcmp hx hb dFi_firstWrongOfForm_26 ?_
      refine lv_if_lt (tgt := 41) hx hb dFi_firstWrongOfForm_27 (by decide) (fun c27 => ?_) (fun c27 => ?_)
      · have c27 : (nu oc 24 4) < 1000 := (pk_lLT (a := (nu oc 24 4)) (b := 1000) (by omega) (by omega)).mp ((lg_cmp_lt _ _).mp c27)
        refine lv_bipush (v := nI 24) hx hb dFi_firstWrongOfForm_41 (by decide +kernel) ?_
        exact ct_ri hx hb hr hlocks () (Or.inr ⟨by first | (exact fun z => absurd c27 (Nat.not_lt.mpr z.2.1)) | (exact fun z => c38 z.2.2.1), 24, by decide, rfl⟩) hP hD hS (Nat.le_refl _) (Nat.le_refl _) dFi_firstWrongOfForm_43
      · have c27 : ¬ (nu oc 24 4) < 1000 := fun q9 => c27 ((lg_cmp_lt _ _).mpr ((pk_lLT (a := (nu oc 24 4)) (b := 1000) (by omega) (by omega)).mpr q9))
        refine lv_aload_n hx hb dFi_firstWrongOfForm_30 rfl (lv_at hl 0 rfl) ?_
        refine ct_l (va_runV (As := []) (rest := []) ⟨hx, hb, hml, hown, hts⟩ (kFi_rateSaid l dC dI k b P I D _ oc ho) (cwV 0 hts (gw_V tw_374 tw_375 tw_376 tw_2 tw_377) rfl rfl rfl (by decide +kernel) ⟨Nat.le_of_ble_eq_true rfl, Nat.le_of_ble_eq_true rfl⟩) ⟨ct_blind (ev := (fun _ => True)) (fun _ _ _ _ h => h), va_recv hK hP (ci := 4) (q0 := 1) rfl rfl, ct_now (ev := (fun _ => True)) (fun _ _ _ => trivial) hP hK hD⟩ rfl rfl hl.1 rfl (lv_room (Nat.le_of_ble_eq_true rfl)) dFi_firstWrongOfForm_31 ⟨Nat.le_of_ble_eq_true rfl, Nat.le_of_ble_eq_true rfl⟩) hD hS hA (fun r20 u20 H locs hw20 hP hD hS => ?_)
        subst hw20
        have b31 := nu_l4 (t := 24) ho2 (by omega)
        refine lv_ldc2 (v := 48000) hx hb hown (hts _ tw_379) dFi_firstWrongOfForm_34 ?_
        refine rw_l (y := lN 48000) (by decide +kernel) ?_
        refine W.lcmp hx hb dFi_firstWrongOfForm_37 ?_
        refine lv_if_le (tgt := 44) hx hb dFi_firstWrongOfForm_38 (by decide) (fun c38 => ?_) (fun c38 => ?_)
        · have c38 : (nu oc 24 4) ≤ 48000 := (pk_lLE (a := (nu oc 24 4)) (b := 48000) (by omega) (by omega)).mp ((lg_cmp_le _ _).mp c38)
          refine lv_aload_n hx hb dFi_firstWrongOfForm_44 rfl (lv_at hl 0 rfl) ?_
          refine lv_bipush (v := nI 28) hx hb dFi_firstWrongOfForm_45 (by decide +kernel) ?_
          refine ct_l (va_runV (As := [.int (nI 28)]) (rest := []) ⟨hx, hb, hml, hown, hts⟩ (kFi_four l dC dI k b P I D _ 28 oc (by omega) ho) (cwV 1 hts (gw_V tw_356 tw_358 sl_Fi_four tw_2 tw_359) rfl rfl rfl (by decide +kernel) ⟨Nat.le_of_ble_eq_true rfl, Nat.le_of_ble_eq_true rfl⟩) ⟨ct_blind (ev := (fun _ => True)) (fun _ _ _ _ h => h), va_recv hK hP (ci := 4) (q0 := 1) rfl rfl, ct_now (ev := (fun _ => True)) (fun _ _ _ => trivial) hP hK hD⟩ rfl rfl hl.1 rfl (lv_room (Nat.le_of_ble_eq_true rfl)) dFi_firstWrongOfForm_47 ⟨Nat.le_of_ble_eq_true rfl, Nat.le_of_ble_eq_true rfl⟩) hD hS hA (fun r21 u21 H locs hw21 hP hD hS => ?_)
          subst hw21
          have b47 := nu_l4 (t := 28) ho2 (by omega)
          refine lv_aload_n hx hb dFi_firstWrongOfForm_50 rfl (lv_at hl 0 rfl) ?_
          refine ct_l (va_runV (As := []) (rest := [.long (lN (nu oc 28 4))]) ⟨hx, hb, hml, hown, hts⟩ (kFi_rateSaid l dC dI k b P I D _ oc ho) (cwV 0 hts (gw_V tw_374 tw_375 tw_376 tw_2 tw_377) rfl rfl rfl (by decide +kernel) ⟨Nat.le_of_ble_eq_true rfl, Nat.le_of_ble_eq_true rfl⟩) ⟨ct_blind (ev := (fun _ => True)) (fun _ _ _ _ h => h), va_recv hK hP (ci := 4) (q0 := 1) rfl rfl, ct_now (ev := (fun _ => True)) (fun _ _ _ => trivial) hP hK hD⟩ rfl rfl hl.1 rfl (lv_room (Nat.le_of_ble_eq_true rfl)) dFi_firstWrongOfForm_51 ⟨Nat.le_of_ble_eq_true rfl, Nat.le_of_ble_eq_true rfl⟩) hD hS hA (fun r22 u22 H locs hw22 hP hD hS => ?_)
          subst hw22
          have b51 := nu_l4 (t := 24) ho2 (by omega)
          refine lv_aload_n hx hb dFi_firstWrongOfForm_54 rfl (lv_at hl 0 rfl) ?_
          refine ct_i (va_runV (As := []) (rest := [.long (lN (nu oc 24 4)), .long (lN (nu oc 28 4))]) ⟨hx, hb, hml, hown, hts⟩ (kFi_width l dC dI k b P I D _ oc ho) (cwV 0 hts (gw_V tw_380 tw_382 sl_Fi_width tw_2 tw_383) rfl rfl rfl (by decide +kernel) ⟨Nat.le_of_ble_eq_true rfl, Nat.le_of_ble_eq_true rfl⟩) ⟨ct_blind (ev := (fun _ => True)) (fun _ _ _ _ h => h), va_recv hK hP (ci := 4) (q0 := 1) rfl rfl, ct_now (ev := (fun _ => True)) (fun _ _ _ => trivial) hP hK hD⟩ rfl rfl hl.1 rfl (lv_room (Nat.le_of_ble_eq_true rfl)) dFi_firstWrongOfForm_55 ⟨Nat.le_of_ble_eq_true rfl, Nat.le_of_ble_eq_true rfl⟩) hD hS hA (fun r23 u23 H locs hw23 hP hD hS => ?_)
          subst hw23
          have b55 := nu_l2 (t := 32) ho2 (by omega)
          refine lv_i2l (v := lN (nu oc 32 2)) hx hb dFi_firstWrongOfForm_58 (nI_l (by omega)) ?_
          have hm1 : nu oc 24 4 * nu oc 32 2 ≤ 4294967296 * 65536 := Nat.mul_le_mul (by omega) (by omega)
          refine lv_lmul hx hb dFi_firstWrongOfForm_59 ?_
          refine rw_l (y := lN ((nu oc 24 4) * (nu oc 32 2))) (lN_mul _ _) ?_
          refine W.lcmp hx hb dFi_firstWrongOfForm_60 ?_
          refine lv_if_eq (tgt := 67) hx hb dFi_firstWrongOfForm_61 (by decide) (fun c61 => ?_) (fun c61 => ?_)
          · have c61 : (nu oc 28 4) = ((nu oc 24 4) * (nu oc 32 2)) := (pk_lEQ (a := (nu oc 28 4)) (b := ((nu oc 24 4) * (nu oc 32 2))) (by omega) (by omega)).mp ((lg_cmp_eq _ _).mp c61)
            refine lv_bipush (v := nI 8) hx hb dFi_firstWrongOfForm_67 (by decide +kernel) ?_
            refine lv_aload_n hx hb dFi_firstWrongOfForm_69 rfl (lv_at hl 0 rfl) ?_
            refine ct_i (va_runV (As := []) (rest := [.int (nI 8)]) ⟨hx, hb, hml, hown, hts⟩ (kFi_width l dC dI k b P I D _ oc ho) (cwV 0 hts (gw_V tw_380 tw_382 sl_Fi_width tw_2 tw_383) rfl rfl rfl (by decide +kernel) ⟨Nat.le_of_ble_eq_true rfl, Nat.le_of_ble_eq_true rfl⟩) ⟨ct_blind (ev := (fun _ => True)) (fun _ _ _ _ h => h), va_recv hK hP (ci := 4) (q0 := 1) rfl rfl, ct_now (ev := (fun _ => True)) (fun _ _ _ => trivial) hP hK hD⟩ rfl rfl hl.1 rfl (lv_room (Nat.le_of_ble_eq_true rfl)) dFi_firstWrongOfForm_70 ⟨Nat.le_of_ble_eq_true rfl, Nat.le_of_ble_eq_true rfl⟩) hD hS hA (fun r24 u24 H locs hw24 hP hD hS => ?_)
            subst hw24
            have b70 := nu_l2 (t := 32) ho2 (by omega)
            refine lv_imul hx hb dFi_firstWrongOfForm_73 ?_
            refine rw_i (y := nI (8 * (nu oc 32 2))) (pk_mul _ _) ?_
            refine lv_aload_n hx hb dFi_firstWrongOfForm_74 rfl (lv_at hl 0 rfl) ?_
            refine ct_i (va_runV (As := []) (rest := [.int (nI (8 * (nu oc 32 2)))]) ⟨hx, hb, hml, hown, hts⟩ (kFi_channels l dC dI k b P I D _ oc ho) (cwV 0 hts (gw_V tw_370 tw_372 sl_Fi_channels tw_2 tw_373) rfl rfl rfl (by decide +kernel) ⟨Nat.le_of_ble_eq_true rfl, Nat.le_of_ble_eq_true rfl⟩) ⟨ct_blind (ev := (fun _ => True)) (fun _ _ _ _ h => h), va_recv hK hP (ci := 4) (q0 := 1) rfl rfl, ct_now (ev := (fun _ => True)) (fun _ _ _ => trivial) hP hK hD⟩ rfl rfl hl.1 rfl (lv_room (Nat.le_of_ble_eq_true rfl)) dFi_firstWrongOfForm_75 ⟨Nat.le_of_ble_eq_true rfl, Nat.le_of_ble_eq_true rfl⟩) hD hS hA (fun r25 u25 H locs hw25 hP hD hS => ?_)
            subst hw25
            have b75 := nu_l2 (t := 22) ho2 (by omega)
            refine lv_aload_n hx hb dFi_firstWrongOfForm_78 rfl (lv_at hl 0 rfl) ?_
            refine ct_i (va_runV (As := []) (rest := [.int (nI (nu oc 22 2)), .int (nI (8 * (nu oc 32 2)))]) ⟨hx, hb, hml, hown, hts⟩ (kFi_bits l dC dI k b P I D _ oc ho) (cwV 0 hts (gw_V tw_384 tw_386 sl_Fi_bits tw_2 tw_387) rfl rfl rfl (by decide +kernel) ⟨Nat.le_of_ble_eq_true rfl, Nat.le_of_ble_eq_true rfl⟩) ⟨ct_blind (ev := (fun _ => True)) (fun _ _ _ _ h => h), va_recv hK hP (ci := 4) (q0 := 1) rfl rfl, ct_now (ev := (fun _ => True)) (fun _ _ _ => trivial) hP hK hD⟩ rfl rfl hl.1 rfl (lv_room (Nat.le_of_ble_eq_true rfl)) dFi_firstWrongOfForm_79 ⟨Nat.le_of_ble_eq_true rfl, Nat.le_of_ble_eq_true rfl⟩) hD hS hA (fun r26 u26 H locs hw26 hP hD hS => ?_)
            subst hw26
            have b79 := nu_l2 (t := 34) ho2 (by omega)
            have hch : nu oc 22 2 = 1 ∨ nu oc 22 2 = 2 := (by first | exact Or.inl c5 | exact Or.inr c13)
            have hm2 : nu oc 22 2 * nu oc 34 2 ≤ 2 * 65536 := Nat.mul_le_mul (by omega) (by omega)
            refine lv_imul hx hb dFi_firstWrongOfForm_82 ?_
            refine rw_i (y := nI ((nu oc 22 2) * (nu oc 34 2))) (pk_mul _ _) ?_
            refine lv_icmp_eq (tgt := 89) hx hb dFi_firstWrongOfForm_83 (by decide) (fun c83 => ?_) (fun c83 => ?_)
            · have c83 : (8 * (nu oc 32 2)) = ((nu oc 22 2) * (nu oc 34 2)) := (nI_eq (a := (8 * (nu oc 32 2))) (b := ((nu oc 22 2) * (nu oc 34 2))) (by omega) (by omega)).mp (show nI (8 * (nu oc 32 2)) = nI ((nu oc 22 2) * (nu oc 34 2)) from c83)
              refine lv_aload_n hx hb dFi_firstWrongOfForm_89 rfl (lv_at hl 0 rfl) ?_
              refine ct_i (va_runV (As := []) (rest := []) ⟨hx, hb, hml, hown, hts⟩ (kFi_bits l dC dI k b P I D _ oc ho) (cwV 0 hts (gw_V tw_384 tw_386 sl_Fi_bits tw_2 tw_387) rfl rfl rfl (by decide +kernel) ⟨Nat.le_of_ble_eq_true rfl, Nat.le_of_ble_eq_true rfl⟩) ⟨ct_blind (ev := (fun _ => True)) (fun _ _ _ _ h => h), va_recv hK hP (ci := 4) (q0 := 1) rfl rfl, ct_now (ev := (fun _ => True)) (fun _ _ _ => trivial) hP hK hD⟩ rfl rfl hl.1 rfl (lv_room (Nat.le_of_ble_eq_true rfl)) dFi_firstWrongOfForm_90 ⟨Nat.le_of_ble_eq_true rfl, Nat.le_of_ble_eq_true rfl⟩) hD hS hA (fun r27 u27 H locs hw27 hP hD hS => ?_)
              subst hw27
              have b90 := nu_l2 (t := 34) ho2 (by omega)
              refine lv_bipush (v := nI 8) hx hb dFi_firstWrongOfForm_93 (by decide +kernel) ?_
              refine lv_icmp_eq (tgt := 110) hx hb dFi_firstWrongOfForm_95 (by decide) (fun c95 => ?_) (fun c95 => ?_)
              · have c95 : (nu oc 34 2) = 8 := (nI_eq (a := (nu oc 34 2)) (b := 8) (by omega) (by omega)).mp (show nI (nu oc 34 2) = nI 8 from c95)
                refine lv_aload_n hx hb dFi_firstWrongOfForm_110 rfl (lv_at hl 0 rfl) ?_
                refine lv_bipush (v := nI 36) hx hb dFi_firstWrongOfForm_111 (by decide +kernel) ?_
                refine lv_bipush (v := nI 100) hx hb dFi_firstWrongOfForm_113 (by decide +kernel) ?_
                refine lv_bipush (v := nI 97) hx hb dFi_firstWrongOfForm_115 (by decide +kernel) ?_
                refine lv_bipush (v := nI 116) hx hb dFi_firstWrongOfForm_117 (by decide +kernel) ?_
                refine lv_bipush (v := nI 97) hx hb dFi_firstWrongOfForm_119 (by decide +kernel) ?_
                refine ct_i (va_runV (As := [.int (nI 36), .int (nI 100), .int (nI 97), .int (nI 116), .int (nI 97)]) (rest := []) ⟨hx, hb, hml, hown, hts⟩ (kFi_spells l dC dI k b P I D _ 36 100 97 116 97 oc (by decide) ho (by decide) (by decide) (by decide) (by decide)) (cwV 5 hts (gw_V tw_352 tw_354 sl_Fi_spells tw_2 tw_355) rfl rfl rfl (by decide +kernel) ⟨Nat.le_of_ble_eq_true rfl, Nat.le_of_ble_eq_true rfl⟩) ⟨ct_blind (ev := (fun _ => True)) (fun _ _ _ _ h => h), va_recv hK hP (ci := 4) (q0 := 1) rfl rfl, ct_now (ev := (fun _ => True)) (fun _ _ _ => trivial) hP hK hD⟩ rfl rfl hl.1 rfl (lv_room (Nat.le_of_ble_eq_true rfl)) dFi_firstWrongOfForm_121 ⟨Nat.le_of_ble_eq_true rfl, Nat.le_of_ble_eq_true rfl⟩) hD hS hA (fun r28 u28 H locs hw28 hP hD hS => ?_)
                by_cases g121 : fi_sp oc 36 100 97 116 97
                · rw [if_pos g121] at hw28
                  subst hw28
                  refine rw_i (y := nI 1) rfl ?_
                  refine lv_if_ne (tgt := 130) hx hb dFi_firstWrongOfForm_124 (by decide) (fun c124 => ?_) (fun c124 => ?_)
                  · have c124 : ¬ 1 = 0 := fun q9 => c124 (show nI 1 = nI 0 from (nI_eq (a := 1) (b := 0) (by omega) (by omega)).mpr q9)
                    refine lv_aload_n hx hb dFi_firstWrongOfForm_130 rfl (lv_at hl 0 rfl) ?_
                    refine lv_bipush (v := nI 40) hx hb dFi_firstWrongOfForm_131 (by decide +kernel) ?_
                    refine ct_l (va_runV (As := [.int (nI 40)]) (rest := []) ⟨hx, hb, hml, hown, hts⟩ (kFi_four l dC dI k b P I D _ 40 oc (by omega) ho) (cwV 1 hts (gw_V tw_356 tw_358 sl_Fi_four tw_2 tw_359) rfl rfl rfl (by decide +kernel) ⟨Nat.le_of_ble_eq_true rfl, Nat.le_of_ble_eq_true rfl⟩) ⟨ct_blind (ev := (fun _ => True)) (fun _ _ _ _ h => h), va_recv hK hP (ci := 4) (q0 := 1) rfl rfl, ct_now (ev := (fun _ => True)) (fun _ _ _ => trivial) hP hK hD⟩ rfl rfl hl.1 rfl (lv_room (Nat.le_of_ble_eq_true rfl)) dFi_firstWrongOfForm_133 ⟨Nat.le_of_ble_eq_true rfl, Nat.le_of_ble_eq_true rfl⟩) hD hS hA (fun r29 u29 H locs hw29 hP hD hS => ?_)
                    subst hw29
                    have b133 := nu_l4 (t := 40) ho2 (by omega)
                    refine lv_aload_n hx hb dFi_firstWrongOfForm_136 rfl (lv_at hl 0 rfl) ?_
                    refine va_get (D := (dC, dI)) (ci := 4) (v := .int (I 0 3)) (C := RFi) (T := TFi) (N := 2) hx hb hts inFi hown hK hP 1 rfl rfl 1 (by decide) (hts _ tw_34) (fun _ h9 => h9) rfl dFi_firstWrongOfForm_137 ?_
                    refine rw_i (y := nI n) h3 ?_
                    refine lv_bipush (v := nI 44) hx hb dFi_firstWrongOfForm_140 (by decide +kernel) ?_
                    refine lv_isub hx hb dFi_firstWrongOfForm_142 ?_
                    refine rw_i (y := nI (n - 44)) (pk_sub (by omega)) ?_
                    refine lv_i2l (v := lN (n - 44)) hx hb dFi_firstWrongOfForm_143 (nI_l (by omega)) ?_
                    refine W.lcmp hx hb dFi_firstWrongOfForm_144 ?_
                    refine lv_if_ne (tgt := 163) hx hb dFi_firstWrongOfForm_145 (by decide) (fun c145 => ?_) (fun c145 => ?_)
                    · have c145 : ¬ (nu oc 40 4) = (n - 44) := fun q9 => c145 ((lg_cmp_eq _ _).mpr ((pk_lEQ (a := (nu oc 40 4)) (b := (n - 44)) (by omega) (by omega)).mpr q9))
                      refine lv_bipush (v := nI 40) hx hb dFi_firstWrongOfForm_163 (by decide +kernel) ?_
                      refine lv_goto (tgt := 169) hx hb dFi_firstWrongOfForm_165 (by decide) ?_
                      exact ct_ri hx hb hr hlocks () (Or.inr ⟨by first | (exact fun z => c145 (z.2.2.2.2.2.2.2.1)) | (exact fun z => c160 (z.2.2.2.2.2.2.2.2)), 40, by decide, rfl⟩) hP hD hS (Nat.le_refl _) (Nat.le_refl _) dFi_firstWrongOfForm_169
                    · have c145 : (nu oc 40 4) = (n - 44) := (pk_lEQ (a := (nu oc 40 4)) (b := (n - 44)) (by omega) (by omega)).mp ((lg_cmp_eq _ _).mp c145)
                      refine lv_aload_n hx hb dFi_firstWrongOfForm_148 rfl (lv_at hl 0 rfl) ?_
                      refine va_get (D := (dC, dI)) (ci := 4) (v := .int (I 0 3)) (C := RFi) (T := TFi) (N := 2) hx hb hts inFi hown hK hP 1 rfl rfl 1 (by decide) (hts _ tw_34) (fun _ h9 => h9) rfl dFi_firstWrongOfForm_149 ?_
                      refine rw_i (y := nI n) h3 ?_
                      refine lv_bipush (v := nI 44) hx hb dFi_firstWrongOfForm_152 (by decide +kernel) ?_
                      refine lv_isub hx hb dFi_firstWrongOfForm_154 ?_
                      refine rw_i (y := nI (n - 44)) (pk_sub (by omega)) ?_
                      refine lv_aload_n hx hb dFi_firstWrongOfForm_155 rfl (lv_at hl 0 rfl) ?_
                      refine ct_i (va_runV (As := []) (rest := [.int (nI (n - 44))]) ⟨hx, hb, hml, hown, hts⟩ (kFi_width l dC dI k b P I D _ oc ho) (cwV 0 hts (gw_V tw_380 tw_382 sl_Fi_width tw_2 tw_383) rfl rfl rfl (by decide +kernel) ⟨Nat.le_of_ble_eq_true rfl, Nat.le_of_ble_eq_true rfl⟩) ⟨ct_blind (ev := (fun _ => True)) (fun _ _ _ _ h => h), va_recv hK hP (ci := 4) (q0 := 1) rfl rfl, ct_now (ev := (fun _ => True)) (fun _ _ _ => trivial) hP hK hD⟩ rfl rfl hl.1 rfl (lv_room (Nat.le_of_ble_eq_true rfl)) dFi_firstWrongOfForm_156 ⟨Nat.le_of_ble_eq_true rfl, Nat.le_of_ble_eq_true rfl⟩) hD hS hA (fun r30 u30 H locs hw30 hP hD hS => ?_)
                      subst hw30
                      have b156 := nu_l2 (t := 32) ho2 (by omega)
                      have hw1 := fi_w hch c83 (by first | exact Or.inl c95 | exact Or.inr c104)
                      have hm3 := Nat.mod_lt (n - 44) (show nu oc 32 2 > 0 by omega)
                      refine lv_irem hx hb dFi_firstWrongOfForm_159 (nI_ne0 (by omega) (by omega)) ?_
                      refine rw_i (y := nI ((n - 44) % (nu oc 32 2))) (pk_rem (by omega) (by omega) (by omega)) ?_
                      refine lv_if_eq (tgt := 168) hx hb dFi_firstWrongOfForm_160 (by decide) (fun c160 => ?_) (fun c160 => ?_)
                      · have c160 : ((n - 44) % (nu oc 32 2)) = 0 := (nI_eq (a := ((n - 44) % (nu oc 32 2))) (b := 0) (by omega) (by omega)).mp (show nI ((n - 44) % (nu oc 32 2)) = nI 0 from c160)
                        refine lv_iconst (v := (-1)) hx hb dFi_firstWrongOfForm_168 (by decide +kernel) ?_
                        exact ct_ri hx hb hr hlocks () (Or.inl ⟨⟨hch, by omega, by omega, c61, c83, (by first | exact Or.inl c95 | exact Or.inr c104), g121, c145, c160⟩, rfl⟩) hP hD hS (Nat.le_refl _) (Nat.le_refl _) dFi_firstWrongOfForm_169
                      · have c160 : ¬ ((n - 44) % (nu oc 32 2)) = 0 := fun q9 => c160 (show nI ((n - 44) % (nu oc 32 2)) = nI 0 from (nI_eq (a := ((n - 44) % (nu oc 32 2))) (b := 0) (by omega) (by omega)).mpr q9)
                        refine lv_bipush (v := nI 40) hx hb dFi_firstWrongOfForm_163 (by decide +kernel) ?_
                        refine lv_goto (tgt := 169) hx hb dFi_firstWrongOfForm_165 (by decide) ?_
                        exact ct_ri hx hb hr hlocks () (Or.inr ⟨by first | (exact fun z => c145 (z.2.2.2.2.2.2.2.1)) | (exact fun z => c160 (z.2.2.2.2.2.2.2.2)), 40, by decide, rfl⟩) hP hD hS (Nat.le_refl _) (Nat.le_refl _) dFi_firstWrongOfForm_169
                  · have c124 : 1 = 0 := (nI_eq (a := 1) (b := 0) (by omega) (by omega)).mp (show nI 1 = nI 0 from c124)
                    exact absurd c124 (by decide)
                · rw [if_neg g121] at hw28
                  subst hw28
                  refine rw_i (y := nI 0) rfl ?_
                  refine lv_if_ne (tgt := 130) hx hb dFi_firstWrongOfForm_124 (by decide) (fun c124 => ?_) (fun c124 => ?_)
                  · have c124 : ¬ 0 = 0 := fun q9 => c124 (show nI 0 = nI 0 from (nI_eq (a := 0) (b := 0) (by omega) (by omega)).mpr q9)
                    exact absurd (by decide) c124
                  · have c124 : 0 = 0 := (nI_eq (a := 0) (b := 0) (by omega) (by omega)).mp (show nI 0 = nI 0 from c124)
                    refine lv_bipush (v := nI 36) hx hb dFi_firstWrongOfForm_127 (by decide +kernel) ?_
                    exact ct_ri hx hb hr hlocks () (Or.inr ⟨fun z => g121 (z.2.2.2.2.2.2.1), 36, by decide, rfl⟩) hP hD hS (Nat.le_refl _) (Nat.le_refl _) dFi_firstWrongOfForm_129
              · have c95 : ¬ (nu oc 34 2) = 8 := fun q9 => c95 (show nI (nu oc 34 2) = nI 8 from (nI_eq (a := (nu oc 34 2)) (b := 8) (by omega) (by omega)).mpr q9)
                refine lv_aload_n hx hb dFi_firstWrongOfForm_98 rfl (lv_at hl 0 rfl) ?_
                refine ct_i (va_runV (As := []) (rest := []) ⟨hx, hb, hml, hown, hts⟩ (kFi_bits l dC dI k b P I D _ oc ho) (cwV 0 hts (gw_V tw_384 tw_386 sl_Fi_bits tw_2 tw_387) rfl rfl rfl (by decide +kernel) ⟨Nat.le_of_ble_eq_true rfl, Nat.le_of_ble_eq_true rfl⟩) ⟨ct_blind (ev := (fun _ => True)) (fun _ _ _ _ h => h), va_recv hK hP (ci := 4) (q0 := 1) rfl rfl, ct_now (ev := (fun _ => True)) (fun _ _ _ => trivial) hP hK hD⟩ rfl rfl hl.1 rfl (lv_room (Nat.le_of_ble_eq_true rfl)) dFi_firstWrongOfForm_99 ⟨Nat.le_of_ble_eq_true rfl, Nat.le_of_ble_eq_true rfl⟩) hD hS hA (fun r31 u31 H locs hw31 hP hD hS => ?_)
                subst hw31
                have b99 := nu_l2 (t := 34) ho2 (by omega)
                refine lv_bipush (v := nI 16) hx hb dFi_firstWrongOfForm_102 (by decide +kernel) ?_
                refine lv_icmp_eq (tgt := 110) hx hb dFi_firstWrongOfForm_104 (by decide) (fun c104 => ?_) (fun c104 => ?_)
                · have c104 : (nu oc 34 2) = 16 := (nI_eq (a := (nu oc 34 2)) (b := 16) (by omega) (by omega)).mp (show nI (nu oc 34 2) = nI 16 from c104)
                  refine lv_aload_n hx hb dFi_firstWrongOfForm_110 rfl (lv_at hl 0 rfl) ?_
                  refine lv_bipush (v := nI 36) hx hb dFi_firstWrongOfForm_111 (by decide +kernel) ?_
                  refine lv_bipush (v := nI 100) hx hb dFi_firstWrongOfForm_113 (by decide +kernel) ?_
                  refine lv_bipush (v := nI 97) hx hb dFi_firstWrongOfForm_115 (by decide +kernel) ?_
                  refine lv_bipush (v := nI 116) hx hb dFi_firstWrongOfForm_117 (by decide +kernel) ?_
                  refine lv_bipush (v := nI 97) hx hb dFi_firstWrongOfForm_119 (by decide +kernel) ?_
                  refine ct_i (va_runV (As := [.int (nI 36), .int (nI 100), .int (nI 97), .int (nI 116), .int (nI 97)]) (rest := []) ⟨hx, hb, hml, hown, hts⟩ (kFi_spells l dC dI k b P I D _ 36 100 97 116 97 oc (by decide) ho (by decide) (by decide) (by decide) (by decide)) (cwV 5 hts (gw_V tw_352 tw_354 sl_Fi_spells tw_2 tw_355) rfl rfl rfl (by decide +kernel) ⟨Nat.le_of_ble_eq_true rfl, Nat.le_of_ble_eq_true rfl⟩) ⟨ct_blind (ev := (fun _ => True)) (fun _ _ _ _ h => h), va_recv hK hP (ci := 4) (q0 := 1) rfl rfl, ct_now (ev := (fun _ => True)) (fun _ _ _ => trivial) hP hK hD⟩ rfl rfl hl.1 rfl (lv_room (Nat.le_of_ble_eq_true rfl)) dFi_firstWrongOfForm_121 ⟨Nat.le_of_ble_eq_true rfl, Nat.le_of_ble_eq_true rfl⟩) hD hS hA (fun r32 u32 H locs hw32 hP hD hS => ?_)
                  by_cases g121 : fi_sp oc 36 100 97 116 97
                  · rw [if_pos g121] at hw32
                    subst hw32
                    refine rw_i (y := nI 1) rfl ?_
                    refine lv_if_ne (tgt := 130) hx hb dFi_firstWrongOfForm_124 (by decide) (fun c124 => ?_) (fun c124 => ?_)
                    · have c124 : ¬ 1 = 0 := fun q9 => c124 (show nI 1 = nI 0 from (nI_eq (a := 1) (b := 0) (by omega) (by omega)).mpr q9)
                      refine lv_aload_n hx hb dFi_firstWrongOfForm_130 rfl (lv_at hl 0 rfl) ?_
                      refine lv_bipush (v := nI 40) hx hb dFi_firstWrongOfForm_131 (by decide +kernel) ?_
                      refine ct_l (va_runV (As := [.int (nI 40)]) (rest := []) ⟨hx, hb, hml, hown, hts⟩ (kFi_four l dC dI k b P I D _ 40 oc (by omega) ho) (cwV 1 hts (gw_V tw_356 tw_358 sl_Fi_four tw_2 tw_359) rfl rfl rfl (by decide +kernel) ⟨Nat.le_of_ble_eq_true rfl, Nat.le_of_ble_eq_true rfl⟩) ⟨ct_blind (ev := (fun _ => True)) (fun _ _ _ _ h => h), va_recv hK hP (ci := 4) (q0 := 1) rfl rfl, ct_now (ev := (fun _ => True)) (fun _ _ _ => trivial) hP hK hD⟩ rfl rfl hl.1 rfl (lv_room (Nat.le_of_ble_eq_true rfl)) dFi_firstWrongOfForm_133 ⟨Nat.le_of_ble_eq_true rfl, Nat.le_of_ble_eq_true rfl⟩) hD hS hA (fun r33 u33 H locs hw33 hP hD hS => ?_)
                      subst hw33
                      have b133 := nu_l4 (t := 40) ho2 (by omega)
                      refine lv_aload_n hx hb dFi_firstWrongOfForm_136 rfl (lv_at hl 0 rfl) ?_
                      refine va_get (D := (dC, dI)) (ci := 4) (v := .int (I 0 3)) (C := RFi) (T := TFi) (N := 2) hx hb hts inFi hown hK hP 1 rfl rfl 1 (by decide) (hts _ tw_34) (fun _ h9 => h9) rfl dFi_firstWrongOfForm_137 ?_
                      refine rw_i (y := nI n) h3 ?_
                      refine lv_bipush (v := nI 44) hx hb dFi_firstWrongOfForm_140 (by decide +kernel) ?_
                      refine lv_isub hx hb dFi_firstWrongOfForm_142 ?_
                      refine rw_i (y := nI (n - 44)) (pk_sub (by omega)) ?_
                      refine lv_i2l (v := lN (n - 44)) hx hb dFi_firstWrongOfForm_143 (nI_l (by omega)) ?_
                      refine W.lcmp hx hb dFi_firstWrongOfForm_144 ?_
                      refine lv_if_ne (tgt := 163) hx hb dFi_firstWrongOfForm_145 (by decide) (fun c145 => ?_) (fun c145 => ?_)
                      · have c145 : ¬ (nu oc 40 4) = (n - 44) := fun q9 => c145 ((lg_cmp_eq _ _).mpr ((pk_lEQ (a := (nu oc 40 4)) (b := (n - 44)) (by omega) (by omega)).mpr q9))
                        refine lv_bipush (v := nI 40) hx hb dFi_firstWrongOfForm_163 (by decide +kernel) ?_
                        refine lv_goto (tgt := 169) hx hb dFi_firstWrongOfForm_165 (by decide) ?_
                        exact ct_ri hx hb hr hlocks () (Or.inr ⟨by first | (exact fun z => c145 (z.2.2.2.2.2.2.2.1)) | (exact fun z => c160 (z.2.2.2.2.2.2.2.2)), 40, by decide, rfl⟩) hP hD hS (Nat.le_refl _) (Nat.le_refl _) dFi_firstWrongOfForm_169
                      · have c145 : (nu oc 40 4) = (n - 44) := (pk_lEQ (a := (nu oc 40 4)) (b := (n - 44)) (by omega) (by omega)).mp ((lg_cmp_eq _ _).mp c145)
                        refine lv_aload_n hx hb dFi_firstWrongOfForm_148 rfl (lv_at hl 0 rfl) ?_
                        refine va_get (D := (dC, dI)) (ci := 4) (v := .int (I 0 3)) (C := RFi) (T := TFi) (N := 2) hx hb hts inFi hown hK hP 1 rfl rfl 1 (by decide) (hts _ tw_34) (fun _ h9 => h9) rfl dFi_firstWrongOfForm_149 ?_
                        refine rw_i (y := nI n) h3 ?_
                        refine lv_bipush (v := nI 44) hx hb dFi_firstWrongOfForm_152 (by decide +kernel) ?_
                        refine lv_isub hx hb dFi_firstWrongOfForm_154 ?_
                        refine rw_i (y := nI (n - 44)) (pk_sub (by omega)) ?_
                        refine lv_aload_n hx hb dFi_firstWrongOfForm_155 rfl (lv_at hl 0 rfl) ?_
                        refine ct_i (va_runV (As := []) (rest := [.int (nI (n - 44))]) ⟨hx, hb, hml, hown, hts⟩ (kFi_width l dC dI k b P I D _ oc ho) (cwV 0 hts (gw_V tw_380 tw_382 sl_Fi_width tw_2 tw_383) rfl rfl rfl (by decide +kernel) ⟨Nat.le_of_ble_eq_true rfl, Nat.le_of_ble_eq_true rfl⟩) ⟨ct_blind (ev := (fun _ => True)) (fun _ _ _ _ h => h), va_recv hK hP (ci := 4) (q0 := 1) rfl rfl, ct_now (ev := (fun _ => True)) (fun _ _ _ => trivial) hP hK hD⟩ rfl rfl hl.1 rfl (lv_room (Nat.le_of_ble_eq_true rfl)) dFi_firstWrongOfForm_156 ⟨Nat.le_of_ble_eq_true rfl, Nat.le_of_ble_eq_true rfl⟩) hD hS hA (fun r34 u34 H locs hw34 hP hD hS => ?_)
                        subst hw34
                        have b156 := nu_l2 (t := 32) ho2 (by omega)
                        have hw1 := fi_w hch c83 (by first | exact Or.inl c95 | exact Or.inr c104)
                        have hm3 := Nat.mod_lt (n - 44) (show nu oc 32 2 > 0 by omega)
                        refine lv_irem hx hb dFi_firstWrongOfForm_159 (nI_ne0 (by omega) (by omega)) ?_
                        refine rw_i (y := nI ((n - 44) % (nu oc 32 2))) (pk_rem (by omega) (by omega) (by omega)) ?_
                        refine lv_if_eq (tgt := 168) hx hb dFi_firstWrongOfForm_160 (by decide) (fun c160 => ?_) (fun c160 => ?_)
                        · have c160 : ((n - 44) % (nu oc 32 2)) = 0 := (nI_eq (a := ((n - 44) % (nu oc 32 2))) (b := 0) (by omega) (by omega)).mp (show nI ((n - 44) % (nu oc 32 2)) = nI 0 from c160)
                          refine lv_iconst (v := (-1)) hx hb dFi_firstWrongOfForm_168 (by decide +kernel) ?_
                          exact ct_ri hx hb hr hlocks () (Or.inl ⟨⟨hch, by omega, by omega, c61, c83, (by first | exact Or.inl c95 | exact Or.inr c104), g121, c145, c160⟩, rfl⟩) hP hD hS (Nat.le_refl _) (Nat.le_refl _) dFi_firstWrongOfForm_169
                        · have c160 : ¬ ((n - 44) % (nu oc 32 2)) = 0 := fun q9 => c160 (show nI ((n - 44) % (nu oc 32 2)) = nI 0 from (nI_eq (a := ((n - 44) % (nu oc 32 2))) (b := 0) (by omega) (by omega)).mpr q9)
                          refine lv_bipush (v := nI 40) hx hb dFi_firstWrongOfForm_163 (by decide +kernel) ?_
                          refine lv_goto (tgt := 169) hx hb dFi_firstWrongOfForm_165 (by decide) ?_
                          exact ct_ri hx hb hr hlocks () (Or.inr ⟨by first | (exact fun z => c145 (z.2.2.2.2.2.2.2.1)) | (exact fun z => c160 (z.2.2.2.2.2.2.2.2)), 40, by decide, rfl⟩) hP hD hS (Nat.le_refl _) (Nat.le_refl _) dFi_firstWrongOfForm_169
                    · have c124 : 1 = 0 := (nI_eq (a := 1) (b := 0) (by omega) (by omega)).mp (show nI 1 = nI 0 from c124)
                      exact absurd c124 (by decide)
                  · rw [if_neg g121] at hw32
                    subst hw32
                    refine rw_i (y := nI 0) rfl ?_
                    refine lv_if_ne (tgt := 130) hx hb dFi_firstWrongOfForm_124 (by decide) (fun c124 => ?_) (fun c124 => ?_)
                    · have c124 : ¬ 0 = 0 := fun q9 => c124 (show nI 0 = nI 0 from (nI_eq (a := 0) (b := 0) (by omega) (by omega)).mpr q9)
                      exact absurd (by decide) c124
                    · have c124 : 0 = 0 := (nI_eq (a := 0) (b := 0) (by omega) (by omega)).mp (show nI 0 = nI 0 from c124)
                      refine lv_bipush (v := nI 36) hx hb dFi_firstWrongOfForm_127 (by decide +kernel) ?_
                      exact ct_ri hx hb hr hlocks () (Or.inr ⟨fun z => g121 (z.2.2.2.2.2.2.1), 36, by decide, rfl⟩) hP hD hS (Nat.le_refl _) (Nat.le_refl _) dFi_firstWrongOfForm_129
                · have c104 : ¬ (nu oc 34 2) = 16 := fun q9 => c104 (show nI (nu oc 34 2) = nI 16 from (nI_eq (a := (nu oc 34 2)) (b := 16) (by omega) (by omega)).mpr q9)
                  refine lv_bipush (v := nI 34) hx hb dFi_firstWrongOfForm_107 (by decide +kernel) ?_
                  exact ct_ri hx hb hr hlocks () (Or.inr ⟨fun z => (z.2.2.2.2.2.1).elim c95 c104, 34, by decide, rfl⟩) hP hD hS (Nat.le_refl _) (Nat.le_refl _) dFi_firstWrongOfForm_109
            · have c83 : ¬ (8 * (nu oc 32 2)) = ((nu oc 22 2) * (nu oc 34 2)) := fun q9 => c83 (show nI (8 * (nu oc 32 2)) = nI ((nu oc 22 2) * (nu oc 34 2)) from (nI_eq (a := (8 * (nu oc 32 2))) (b := ((nu oc 22 2) * (nu oc 34 2))) (by omega) (by omega)).mpr q9)
              refine lv_bipush (v := nI 32) hx hb dFi_firstWrongOfForm_86 (by decide +kernel) ?_
              exact ct_ri hx hb hr hlocks () (Or.inr ⟨fun z => c83 (z.2.2.2.2.1), 32, by decide, rfl⟩) hP hD hS (Nat.le_refl _) (Nat.le_refl _) dFi_firstWrongOfForm_88
          · have c61 : ¬ (nu oc 28 4) = ((nu oc 24 4) * (nu oc 32 2)) := fun q9 => c61 ((lg_cmp_eq _ _).mpr ((pk_lEQ (a := (nu oc 28 4)) (b := ((nu oc 24 4) * (nu oc 32 2))) (by omega) (by omega)).mpr q9))
            refine lv_bipush (v := nI 28) hx hb dFi_firstWrongOfForm_64 (by decide +kernel) ?_
            exact ct_ri hx hb hr hlocks () (Or.inr ⟨fun z => c61 (z.2.2.2.1), 28, by decide, rfl⟩) hP hD hS (Nat.le_refl _) (Nat.le_refl _) dFi_firstWrongOfForm_66
        · have c38 : ¬ (nu oc 24 4) ≤ 48000 := fun q9 => c38 ((lg_cmp_le _ _).mpr ((pk_lLE (a := (nu oc 24 4)) (b := 48000) (by omega) (by omega)).mpr q9))
          refine lv_bipush (v := nI 24) hx hb dFi_firstWrongOfForm_41 (by decide +kernel) ?_
          exact ct_ri hx hb hr hlocks () (Or.inr ⟨by first | (exact fun z => absurd c27 (Nat.not_lt.mpr z.2.1)) | (exact fun z => c38 z.2.2.1), 24, by decide, rfl⟩) hP hD hS (Nat.le_refl _) (Nat.le_refl _) dFi_firstWrongOfForm_43
    · have c13 : ¬ (nu oc 22 2) = 2 := fun q9 => c13 (show nI (nu oc 22 2) = nI 2 from (nI_eq (a := (nu oc 22 2)) (b := 2) (by omega) (by omega)).mpr q9)
      refine lv_bipush (v := nI 22) hx hb dFi_firstWrongOfForm_16 (by decide +kernel) ?_
      exact ct_ri hx hb hr hlocks () (Or.inr ⟨fun z => (z.1).elim c5 c13, 22, by decide, rfl⟩) hP hD hS (Nat.le_refl _) (Nat.le_refl _) dFi_firstWrongOfForm_18
set_option maxHeartbeats 4000000 in
set_option maxRecDepth 100000 in
theorem kFi_firstWrong (l : Launch) (dC : Nat → ClassId) (dI : Nat → Nat → Nat) (k : Nat → ClassId) (b P : Nat → Nat) (I : Nat → Nat → Int32) (D : Nat → Nat → UInt64) (sz : Nat) (n : Nat) (hn : n ≤ 400) (h3 : I 0 3 = nI n) (oc : Nat → Nat) (ho : ∀ j, j < 400 → I 1 j = nI (oc j) ∧ oc j < 256) : Met l yFi_firstWrong wFi_firstWrong ({ frames := 4, cells := 0, slots := 0, locals := 82 }) (va_Pc [.ref (b 1)] (ct_pre (dC, dI) (de_ty k) (fun _ => True) (wd k b P I D) sz)) (va_Qi (fun r (_ : Unit) => (fi_ok oc n ∧ r = -1) ∨ ((¬ fi_ok oc n) ∧ ∃ j, j ≤ 44 ∧ r = nI j)) (fun u t => ct_at (dC, dI) (va_A (wd k b P I D) sz) ((fun _ => wd k b P I D) u) t) (va_A (wd k b P I D) sz)) 0 0 (va_A (wd k b P I D) sz) := by
  refine Met.ofW (cc := cFi_firstWrong) (maxL := 2) (ret := (some .int)) (by decide) rfl ?_
  intro p e s m args below meth c s₁ B hml hv
  obtain ⟨rfl, hsz, hP, hK, hD0, hE⟩ := hv
  have hx := B.exec
  have hb := B.bytes
  have hr := B.returns
  have hts : ∀ w ∈ W0, w.before [.ref (b 1)].toArray s = true := fun w h => atoms_spec (ws := wFi_firstWrong) B.pre w (List.mem_cons_of_mem _ h)
  have hown : s.vm.findClass RFi = some m.cls := findClass_of_methodNamed B.named
  have hlocks := B.notSynchronized
  subst hsz
  have hP0 := hP
  have hD := hD0.self (sz := s.heap.size)
  generalize hAe : va_A (wd k b P I D) s.heap.size = A at hD ⊢
  have hA : ∀ q : Nat, s.heap.size ≤ q → A q := fun q h => by rw [← hAe]; exact Or.inr h
  have hS : va_S A s.heap s.heap [] := va_S.rf
  have hl := lv_entry ([.ref (b 1)]) (n := 2) (Nat.le_of_ble_eq_true rfl)
  rw [lg_entry_eq]
  generalize (lg_sl ([.ref (b 1)]) ++ List.replicate (2 - (lg_sl ([.ref (b 1)])).length) Slot.unset).toArray = ls at hl ⊢
  have hl : lv_has ls 2 [(0, .ref (b 1))] := hl
  refine lv_aload_n hx hb dFi_firstWrong_0 rfl (lv_at hl 0 rfl) ?_
  refine va_get (D := (dC, dI)) (ci := 4) (v := .int (I 0 3)) (C := RFi) (T := TFi) (N := 2) hx hb hts inFi hown hK hP 1 rfl rfl 1 (by decide) (hts _ tw_34) (fun _ h9 => h9) rfl dFi_firstWrong_1 ?_
  refine rw_i (y := nI n) h3 ?_
  refine lv_bipush (v := nI 44) hx hb dFi_firstWrong_4 (by decide +kernel) ?_
  refine lv_icmp_ge (tgt := 14) hx hb dFi_firstWrong_6 (by decide) (fun c6 => ?_) (fun c6 => ?_)
  · have c6 : 44 ≤ n := (nI_leI (a := 44) (b := n) (by omega) (by omega)).mp (show nI 44 ≤ nI n from c6)
    refine lv_aload_n hx hb dFi_firstWrong_14 rfl (lv_at hl 0 rfl) ?_
    refine ct_i (va_runV (As := []) (rest := []) ⟨hx, hb, hml, hown, hts⟩ (kFi_firstWrongOfHead l dC dI k b P I D _ n hn (by omega) h3 oc ho) (cwV 0 hts (gw_V tw_348 tw_350 sl_Fi_firstWrongOfHead tw_2 tw_351) rfl rfl rfl (by decide +kernel) ⟨Nat.le_of_ble_eq_true rfl, Nat.le_of_ble_eq_true rfl⟩) ⟨ct_blind (ev := (fun _ => True)) (fun _ _ _ _ h => h), va_recv hK hP (ci := 4) (q0 := 1) rfl rfl, ct_now (ev := (fun _ => True)) (fun _ _ _ => trivial) hP hK hD⟩ rfl rfl hl.1 rfl (lv_room (Nat.le_of_ble_eq_true rfl)) dFi_firstWrong_15 ⟨Nat.le_of_ble_eq_true rfl, Nat.le_of_ble_eq_true rfl⟩) hD hS hA (fun r1 u1 H locs hw1 hP hD hS => ?_)
    rcases hw1 with ⟨hh, rfl⟩ | ⟨hh, jhh, hjhh, rfl⟩
    · skip
      refine lv_istore_n (lv' := [(1, .int (-1)), (0, .ref (b 1))]) hx hb dFi_firstWrong_18 rfl hl (by decide) rfl (fun ls hl => ?_)
      refine lv_iload_n hx hb dFi_firstWrong_19 rfl (lv_at hl 0 rfl) ?_
      refine lv_iconst (v := (-1)) hx hb dFi_firstWrong_20 (by decide +kernel) ?_
      refine lv_icmp_eq (tgt := 28) hx hb dFi_firstWrong_21 (by decide) (fun c21 => ?_) (fun c21 => ?_)
      · refine lv_aload_n hx hb dFi_firstWrong_28 rfl (lv_at hl 1 rfl) ?_
        refine ct_i (va_runV (As := []) (rest := []) ⟨hx, hb, hml, hown, hts⟩ (kFi_firstWrongOfForm l dC dI k b P I D _ n hn (by omega) h3 oc ho) (cwV 0 hts (gw_V tw_366 tw_368 sl_Fi_firstWrongOfForm tw_2 tw_369) rfl rfl rfl (by decide +kernel) ⟨Nat.le_of_ble_eq_true rfl, Nat.le_of_ble_eq_true rfl⟩) ⟨ct_blind (ev := (fun _ => True)) (fun _ _ _ _ h => h), va_recv hK hP (ci := 4) (q0 := 1) rfl rfl, ct_now (ev := (fun _ => True)) (fun _ _ _ => trivial) hP hK hD⟩ rfl rfl hl.1 rfl (lv_room (Nat.le_of_ble_eq_true rfl)) dFi_firstWrong_29 ⟨Nat.le_of_ble_eq_true rfl, Nat.le_of_ble_eq_true rfl⟩) hD hS hA (fun r2 u2 H locs hw2 hP hD hS => ?_)
        rcases hw2 with ⟨hf, rfl⟩ | ⟨hf, jhf, hjhf, rfl⟩
        · skip
          exact ct_ri hx hb hr hlocks () (Or.inl ⟨(fi_hf (by omega)).mpr ⟨hh, hf⟩, rfl⟩) hP hD hS (Nat.le_refl _) (Nat.le_refl _) dFi_firstWrong_32
        · skip
          exact ct_ri hx hb hr hlocks () (Or.inr ⟨fun z => hf ((fi_hf (by omega)).mp z).2, jhf, hjhf, rfl⟩) hP hD hS (Nat.le_refl _) (Nat.le_refl _) dFi_firstWrong_32
      · exact absurd rfl c21
    · skip
      refine lv_istore_n (lv' := [(1, .int (nI jhh)), (0, .ref (b 1))]) hx hb dFi_firstWrong_18 rfl hl (by decide) rfl (fun ls hl => ?_)
      refine lv_iload_n hx hb dFi_firstWrong_19 rfl (lv_at hl 0 rfl) ?_
      refine lv_iconst (v := (-1)) hx hb dFi_firstWrong_20 (by decide +kernel) ?_
      refine lv_icmp_eq (tgt := 28) hx hb dFi_firstWrong_21 (by decide) (fun c21 => ?_) (fun c21 => ?_)
      · exact absurd c21 (rd_ne (by omega))
      · refine lv_iload_n hx hb dFi_firstWrong_24 rfl (lv_at hl 0 rfl) ?_
        refine lv_goto (tgt := 32) hx hb dFi_firstWrong_25 (by decide) ?_
        exact ct_ri hx hb hr hlocks () (Or.inr ⟨fun z => hh ((fi_hf (by omega)).mp z).1, jhh, hjhh, rfl⟩) hP hD hS (Nat.le_refl _) (Nat.le_refl _) dFi_firstWrong_32
  · have c6 : ¬ 44 ≤ n := fun q9 => c6 (show nI 44 ≤ nI n from (nI_leI (a := 44) (b := n) (by omega) (by omega)).mpr q9)
    refine lv_aload_n hx hb dFi_firstWrong_9 rfl (lv_at hl 0 rfl) ?_
    refine va_get (D := (dC, dI)) (ci := 4) (v := .int (I 0 3)) (C := RFi) (T := TFi) (N := 2) hx hb hts inFi hown hK hP 1 rfl rfl 1 (by decide) (hts _ tw_34) (fun _ h9 => h9) rfl dFi_firstWrong_10 ?_
    refine rw_i (y := nI n) h3 ?_
    exact ct_ri hx hb hr hlocks () (Or.inr ⟨fun z => absurd z.1 (by omega), n, by omega, rfl⟩) hP hD hS (Nat.le_refl _) (Nat.le_refl _) dFi_firstWrong_13
set_option maxHeartbeats 4000000 in
set_option maxRecDepth 100000 in
theorem kFi_sampleCount (l : Launch) (dC : Nat → ClassId) (dI : Nat → Nat → Nat) (k : Nat → ClassId) (b P : Nat → Nat) (I : Nat → Nat → Int32) (D : Nat → Nat → UInt64) (sz : Nat) (n : Nat) (hn : n ≤ 400) (h3 : I 0 3 = nI n) (oc : Nat → Nat) (ho : ∀ j, j < 400 → I 1 j = nI (oc j) ∧ oc j < 256) (hok : fi_ok oc n) : Met l yFi_sampleCount wFi_sampleCount ({ frames := 2, cells := 0, slots := 0, locals := 41 }) (va_Pc [.ref (b 1)] (ct_pre (dC, dI) (de_ty k) (fun _ => True) (wd k b P I D) sz)) (va_Qi (fun r (_ : Unit) => r = nI (fi_n oc n)) (fun u t => ct_at (dC, dI) (va_A (wd k b P I D) sz) ((fun _ => wd k b P I D) u) t) (va_A (wd k b P I D) sz)) 0 0 (va_A (wd k b P I D) sz) := by
  refine Met.ofW (cc := cFi_sampleCount) (maxL := 1) (ret := (some .int)) (by decide) rfl ?_
  intro p e s m args below meth c s₁ B hml hv
  obtain ⟨rfl, hsz, hP, hK, hD0, hE⟩ := hv
  have hx := B.exec
  have hb := B.bytes
  have hr := B.returns
  have hts : ∀ w ∈ W0, w.before [.ref (b 1)].toArray s = true := fun w h => atoms_spec (ws := wFi_sampleCount) B.pre w (List.mem_cons_of_mem _ h)
  have hown : s.vm.findClass RFi = some m.cls := findClass_of_methodNamed B.named
  have hlocks := B.notSynchronized
  subst hsz
  have hP0 := hP
  have hD := hD0.self (sz := s.heap.size)
  generalize hAe : va_A (wd k b P I D) s.heap.size = A at hD ⊢
  have hA : ∀ q : Nat, s.heap.size ≤ q → A q := fun q h => by rw [← hAe]; exact Or.inr h
  have hS : va_S A s.heap s.heap [] := va_S.rf
  have hl := lv_entry ([.ref (b 1)]) (n := 1) (Nat.le_of_ble_eq_true rfl)
  rw [lg_entry_eq]
  generalize (lg_sl ([.ref (b 1)]) ++ List.replicate (1 - (lg_sl ([.ref (b 1)])).length) Slot.unset).toArray = ls at hl ⊢
  have hl : lv_has ls 1 [(0, .ref (b 1))] := hl
  have ho2 : ∀ j, j < 400 → oc j < 256 := fun j hj => (ho j hj).2
  obtain ⟨k0, k1, k2, k3, k4, k5⟩ := fi_k hok
  obtain ⟨e1, e2⟩ := fi_e hok
  have gn := fi_n_le hok hn
  refine lv_aload_n hx hb dFi_sampleCount_0 rfl (lv_at hl 0 rfl) ?_
  refine ct_i (va_runV (As := []) (rest := []) ⟨hx, hb, hml, hown, hts⟩ (kFi_width l dC dI k b P I D _ oc ho) (cwV 0 hts (gw_V tw_380 tw_382 sl_Fi_width tw_2 tw_383) rfl rfl rfl (by decide +kernel) ⟨Nat.le_of_ble_eq_true rfl, Nat.le_of_ble_eq_true rfl⟩) ⟨ct_blind (ev := (fun _ => True)) (fun _ _ _ _ h => h), va_recv hK hP (ci := 4) (q0 := 1) rfl rfl, ct_now (ev := (fun _ => True)) (fun _ _ _ => trivial) hP hK hD⟩ rfl rfl hl.1 rfl (lv_room (Nat.le_of_ble_eq_true rfl)) dFi_sampleCount_1 ⟨Nat.le_of_ble_eq_true rfl, Nat.le_of_ble_eq_true rfl⟩) hD hS hA (fun r1 u1 H locs hw1 hP hD hS => ?_)
  subst hw1
  have b1 := nu_l2 (t := 32) ho2 (by omega)
  refine lv_if_ne (tgt := 11) hx hb dFi_sampleCount_4 (by decide) (fun c4 => ?_) (fun c4 => ?_)
  · have c4 : ¬ (nu oc 32 2) = 0 := fun q9 => c4 (show nI (nu oc 32 2) = nI 0 from (nI_eq (a := (nu oc 32 2)) (b := 0) (by omega) (by omega)).mpr q9)
    refine lv_aload_n hx hb dFi_sampleCount_11 rfl (lv_at hl 0 rfl) ?_
    refine va_get (D := (dC, dI)) (ci := 4) (v := .int (I 0 3)) (C := RFi) (T := TFi) (N := 2) hx hb hts inFi hown hK hP 1 rfl rfl 1 (by decide) (hts _ tw_34) (fun _ h9 => h9) rfl dFi_sampleCount_12 ?_
    refine rw_i (y := nI n) h3 ?_
    refine lv_bipush (v := nI 44) hx hb dFi_sampleCount_15 (by decide +kernel) ?_
    refine lv_isub hx hb dFi_sampleCount_17 ?_
    refine rw_i (y := nI (n - 44)) (pk_sub (by omega)) ?_
    refine lv_aload_n hx hb dFi_sampleCount_18 rfl (lv_at hl 0 rfl) ?_
    refine ct_i (va_runV (As := []) (rest := [.int (nI (n - 44))]) ⟨hx, hb, hml, hown, hts⟩ (kFi_width l dC dI k b P I D _ oc ho) (cwV 0 hts (gw_V tw_380 tw_382 sl_Fi_width tw_2 tw_383) rfl rfl rfl (by decide +kernel) ⟨Nat.le_of_ble_eq_true rfl, Nat.le_of_ble_eq_true rfl⟩) ⟨ct_blind (ev := (fun _ => True)) (fun _ _ _ _ h => h), va_recv hK hP (ci := 4) (q0 := 1) rfl rfl, ct_now (ev := (fun _ => True)) (fun _ _ _ => trivial) hP hK hD⟩ rfl rfl hl.1 rfl (lv_room (Nat.le_of_ble_eq_true rfl)) dFi_sampleCount_19 ⟨Nat.le_of_ble_eq_true rfl, Nat.le_of_ble_eq_true rfl⟩) hD hS hA (fun r2 u2 H locs hw2 hP hD hS => ?_)
    subst hw2
    have b19 := nu_l2 (t := 32) ho2 (by omega)
    refine lv_idiv hx hb dFi_sampleCount_22 (nI_ne0 (by omega) (by omega)) ?_
    refine rw_i (y := nI (fi_n oc n)) (pk_div (by omega) (by omega) (by omega)) ?_
    exact ct_ri hx hb hr hlocks () rfl hP hD hS (Nat.le_refl _) (Nat.le_refl _) dFi_sampleCount_23
  · have c4 : (nu oc 32 2) = 0 := (nI_eq (a := (nu oc 32 2)) (b := 0) (by omega) (by omega)).mp (show nI (nu oc 32 2) = nI 0 from c4)
    exact absurd c4 (by omega)
set_option maxHeartbeats 4000000 in
set_option maxRecDepth 100000 in
theorem kFi_channelAt (l : Launch) (dC : Nat → ClassId) (dI : Nat → Nat → Nat) (k : Nat → ClassId) (b P : Nat → Nat) (I : Nat → Nat → Int32) (D : Nat → Nat → UInt64) (sz : Nat) (t : Nat) (oc : Nat → Nat) (ho : ∀ j, j < 400 → I 1 j = nI (oc j) ∧ oc j < 256) (ht : t < 400) (ht2 : nu oc 34 2 ≠ 8 → t + 2 ≤ 400) : Met l yFi_channelAt wFi_channelAt ({ frames := 2, cells := 0, slots := 0, locals := 41 }) (va_Pc [.ref (b 1), .int (nI t)] (ct_pre (dC, dI) (de_ty k) (fun _ => True) (wd k b P I D) sz)) (va_Qd (fun r (_ : Unit) => r = fi_ch oc (nu oc 34 2) t) (fun u t => ct_at (dC, dI) (va_A (wd k b P I D) sz) ((fun _ => wd k b P I D) u) t) (va_A (wd k b P I D) sz)) 0 0 (va_A (wd k b P I D) sz) := by
  refine Met.ofW (cc := cFi_channelAt) (maxL := 3) (ret := (some .double)) (by decide) rfl ?_
  intro p e s m args below meth c s₁ B hml hv
  obtain ⟨rfl, hsz, hP, hK, hD0, hE⟩ := hv
  have hx := B.exec
  have hb := B.bytes
  have hr := B.returns
  have hts : ∀ w ∈ W0, w.before [.ref (b 1), .int (nI t)].toArray s = true := fun w h => atoms_spec (ws := wFi_channelAt) B.pre w (List.mem_cons_of_mem _ h)
  have hown : s.vm.findClass RFi = some m.cls := findClass_of_methodNamed B.named
  have hlocks := B.notSynchronized
  subst hsz
  have hP0 := hP
  have hD := hD0.self (sz := s.heap.size)
  generalize hAe : va_A (wd k b P I D) s.heap.size = A at hD ⊢
  have hA : ∀ q : Nat, s.heap.size ≤ q → A q := fun q h => by rw [← hAe]; exact Or.inr h
  have hS : va_S A s.heap s.heap [] := va_S.rf
  have hl := lv_entry ([.ref (b 1), .int (nI t)]) (n := 3) (Nat.le_of_ble_eq_true rfl)
  rw [lg_entry_eq]
  generalize (lg_sl ([.ref (b 1), .int (nI t)]) ++ List.replicate (3 - (lg_sl ([.ref (b 1), .int (nI t)])).length) Slot.unset).toArray = ls at hl ⊢
  have hl : lv_has ls 3 [(0, .ref (b 1)), (1, .int (nI t))] := hl
  have ho2 : ∀ j, j < 400 → oc j < 256 := fun j hj => (ho j hj).2
  refine lv_aload_n hx hb dFi_channelAt_0 rfl (lv_at hl 0 rfl) ?_
  refine ct_i (va_runV (As := []) (rest := []) ⟨hx, hb, hml, hown, hts⟩ (kFi_bits l dC dI k b P I D _ oc ho) (cwV 0 hts (gw_V tw_384 tw_386 sl_Fi_bits tw_2 tw_387) rfl rfl rfl (by decide +kernel) ⟨Nat.le_of_ble_eq_true rfl, Nat.le_of_ble_eq_true rfl⟩) ⟨ct_blind (ev := (fun _ => True)) (fun _ _ _ _ h => h), va_recv hK hP (ci := 4) (q0 := 1) rfl rfl, ct_now (ev := (fun _ => True)) (fun _ _ _ => trivial) hP hK hD⟩ rfl rfl hl.1 rfl (lv_room (Nat.le_of_ble_eq_true rfl)) dFi_channelAt_1 ⟨Nat.le_of_ble_eq_true rfl, Nat.le_of_ble_eq_true rfl⟩) hD hS hA (fun r1 u1 H locs hw1 hP hD hS => ?_)
  subst hw1
  have b1 := nu_l2 (t := 34) ho2 (by omega)
  refine lv_bipush (v := nI 8) hx hb dFi_channelAt_4 (by decide +kernel) ?_
  refine lv_icmp_ne (tgt := 29) hx hb dFi_channelAt_6 (by decide) (fun c6 => ?_) (fun c6 => ?_)
  · have c6 : ¬ (nu oc 34 2) = 8 := fun q9 => c6 (show nI (nu oc 34 2) = nI 8 from (nI_eq (a := (nu oc 34 2)) (b := 8) (by omega) (by omega)).mpr q9)
    refine lv_aload_n hx hb dFi_channelAt_29 rfl (lv_at hl 0 rfl) ?_
    refine lv_iload_n hx hb dFi_channelAt_30 rfl (lv_at hl 1 rfl) ?_
    have ht3 := ht2 c6
    refine ct_i (va_runV (As := [.int (nI t)]) (rest := []) ⟨hx, hb, hml, hown, hts⟩ (kFi_two l dC dI k b P I D _ t oc (ht2 c6) ho) (cwV 1 hts (gw_V tw_360 tw_362 sl_Fi_two tw_2 tw_363) rfl rfl rfl (by decide +kernel) ⟨Nat.le_of_ble_eq_true rfl, Nat.le_of_ble_eq_true rfl⟩) ⟨ct_blind (ev := (fun _ => True)) (fun _ _ _ _ h => h), va_recv hK hP (ci := 4) (q0 := 1) rfl rfl, ct_now (ev := (fun _ => True)) (fun _ _ _ => trivial) hP hK hD⟩ rfl rfl hl.1 rfl (lv_room (Nat.le_of_ble_eq_true rfl)) dFi_channelAt_31 ⟨Nat.le_of_ble_eq_true rfl, Nat.le_of_ble_eq_true rfl⟩) hD hS hA (fun r2 u2 H locs hw2 hP hD hS => ?_)
    subst hw2
    have b31 := nu_l2 (t := t) ho2 (ht2 c6)
    refine lv_istore_n (lv' := [(2, .int (nI (nu oc t 2))), (0, .ref (b 1)), (1, .int (nI t))]) hx hb dFi_channelAt_34 rfl hl (by decide) rfl (fun ls hl => ?_)
    refine lv_iload_n hx hb dFi_channelAt_35 rfl (lv_at hl 0 rfl) ?_
    refine lv_ldc (v := 32768) hx hb hown (hts _ tw_407) dFi_channelAt_36 ?_
    refine rw_i (y := nI 32768) (by decide +kernel) ?_
    refine lv_icmp_lt (tgt := 48) hx hb dFi_channelAt_38 (by decide) (fun c38 => ?_) (fun c38 => ?_)
    · have c38 : (nu oc t 2) < 32768 := (nI_ltI (a := (nu oc t 2)) (b := 32768) (by omega) (by omega)).mp (show nI (nu oc t 2) < nI 32768 from c38)
      refine lv_iload_n hx hb dFi_channelAt_48 rfl (lv_at hl 0 rfl) ?_
      refine rw_i (y := fi_ci oc (nu oc 34 2) t) (((if_neg c6).trans ((by rw [← nu_2] : _ = _).trans ((fi_s16 _ (ho2 _ (by omega)) _ (ho2 _ (by omega))).trans (by rw [nu_2]; first | (rw [if_pos (by omega)]) | (rw [if_neg (by omega)]))))).symm) ?_
      refine lv_i2d hx hb dFi_channelAt_49 ?_
      refine lv_ldc2d (v := 4674736413210574848) hx hb hown (hts _ tw_406) dFi_channelAt_50 ?_
      refine lv_ddiv hx hb dFi_channelAt_53 (fb_n (fi_ch_b oc _ _) (by decide)) ?_
      refine rw_d (y := fi_ch oc (nu oc 34 2) t) rfl ?_
      exact ct_rd hx hb hr hlocks () rfl hP hD hS (Nat.le_refl _) (Nat.le_refl _) dFi_channelAt_54
    · have c38 : ¬ (nu oc t 2) < 32768 := fun q9 => c38 (show nI (nu oc t 2) < nI 32768 from (nI_ltI (a := (nu oc t 2)) (b := 32768) (by omega) (by omega)).mpr q9)
      refine lv_iload_n hx hb dFi_channelAt_41 rfl (lv_at hl 0 rfl) ?_
      refine lv_ldc (v := 65536) hx hb hown (hts _ tw_408) dFi_channelAt_42 ?_
      refine rw_i (y := nI 65536) (by decide +kernel) ?_
      refine lv_isub hx hb dFi_channelAt_44 ?_
      refine lv_goto (tgt := 49) hx hb dFi_channelAt_45 (by decide) ?_
      refine rw_i (y := fi_ci oc (nu oc 34 2) t) (((if_neg c6).trans ((by rw [← nu_2] : _ = _).trans ((fi_s16 _ (ho2 _ (by omega)) _ (ho2 _ (by omega))).trans (by rw [nu_2]; first | (rw [if_pos (by omega)]) | (rw [if_neg (by omega)]))))).symm) ?_
      refine lv_i2d hx hb dFi_channelAt_49 ?_
      refine lv_ldc2d (v := 4674736413210574848) hx hb hown (hts _ tw_406) dFi_channelAt_50 ?_
      refine lv_ddiv hx hb dFi_channelAt_53 (fb_n (fi_ch_b oc _ _) (by decide)) ?_
      refine rw_d (y := fi_ch oc (nu oc 34 2) t) rfl ?_
      exact ct_rd hx hb hr hlocks () rfl hP hD hS (Nat.le_refl _) (Nat.le_refl _) dFi_channelAt_54
  · have c6 : (nu oc 34 2) = 8 := (nI_eq (a := (nu oc 34 2)) (b := 8) (by omega) (by omega)).mp (show nI (nu oc 34 2) = nI 8 from c6)
    refine lv_aload_n hx hb dFi_channelAt_9 rfl (lv_at hl 0 rfl) ?_
    refine va_get (D := (dC, dI)) (ci := 4) (v := .ref (b 2)) (C := RFi) (T := TFi) (N := 2) hx hb hts inFi hown hK hP 1 rfl rfl 0 (by decide) (hts _ tw_33) (fun _ h9 => h9) rfl dFi_channelAt_10 ?_
    refine lv_iload_n hx hb dFi_channelAt_13 rfl (lv_at hl 1 rfl) ?_
    refine rw_ald_i hx hb hK hP 2 0 rfl rfl (by omega) (by decide) dFi_channelAt_14 ?_
    refine rw_i (y := nI (oc t)) ((ho _ (by omega)).1) ?_
    refine lv_sipush (v := nI 128) hx hb dFi_channelAt_15 (by decide +kernel) ?_
    refine lv_isub hx hb dFi_channelAt_18 ?_
    refine lv_sipush (v := nI 256) hx hb dFi_channelAt_19 (by decide +kernel) ?_
    refine lv_imul hx hb dFi_channelAt_22 ?_
    refine rw_i (y := fi_ci oc (nu oc 34 2) t) ((if_pos c6).symm) ?_
    refine lv_i2d hx hb dFi_channelAt_23 ?_
    refine lv_ldc2d (v := 4674736413210574848) hx hb hown (hts _ tw_406) dFi_channelAt_24 ?_
    refine lv_ddiv hx hb dFi_channelAt_27 (fb_n (fi_ch_b oc _ _) (by decide)) ?_
    refine rw_d (y := fi_ch oc (nu oc 34 2) t) rfl ?_
    exact ct_rd hx hb hr hlocks () rfl hP hD hS (Nat.le_refl _) (Nat.le_refl _) dFi_channelAt_28
set_option maxHeartbeats 4000000 in
set_option maxRecDepth 100000 in
theorem kFi_sampleAt (l : Launch) (dC : Nat → ClassId) (dI : Nat → Nat → Nat) (k : Nat → ClassId) (b P : Nat → Nat) (I : Nat → Nat → Int32) (D : Nat → Nat → UInt64) (sz : Nat) (i : Nat) (n : Nat) (hn : n ≤ 400) (h3 : I 0 3 = nI n) (oc : Nat → Nat) (ho : ∀ j, j < 400 → I 1 j = nI (oc j) ∧ oc j < 256) (hok : fi_ok oc n) (hi : i < fi_n oc n) : Met l yFi_sampleAt wFi_sampleAt ({ frames := 3, cells := 0, slots := 0, locals := 63 }) (va_Pc [.ref (b 1), .int (nI i)] (ct_pre (dC, dI) (de_ty k) (fun _ => True) (wd k b P I D) sz)) (va_Qd (fun r (_ : Unit) => r = fi_sa oc i) (fun u t => ct_at (dC, dI) (va_A (wd k b P I D) sz) ((fun _ => wd k b P I D) u) t) (va_A (wd k b P I D) sz)) 0 0 (va_A (wd k b P I D) sz) := by
  refine Met.ofW (cc := cFi_sampleAt) (maxL := 3) (ret := (some .double)) (by decide) rfl ?_
  intro p e s m args below meth c s₁ B hml hv
  obtain ⟨rfl, hsz, hP, hK, hD0, hE⟩ := hv
  have hx := B.exec
  have hb := B.bytes
  have hr := B.returns
  have hts : ∀ w ∈ W0, w.before [.ref (b 1), .int (nI i)].toArray s = true := fun w h => atoms_spec (ws := wFi_sampleAt) B.pre w (List.mem_cons_of_mem _ h)
  have hown : s.vm.findClass RFi = some m.cls := findClass_of_methodNamed B.named
  have hlocks := B.notSynchronized
  subst hsz
  have hP0 := hP
  have hD := hD0.self (sz := s.heap.size)
  generalize hAe : va_A (wd k b P I D) s.heap.size = A at hD ⊢
  have hA : ∀ q : Nat, s.heap.size ≤ q → A q := fun q h => by rw [← hAe]; exact Or.inr h
  have hS : va_S A s.heap s.heap [] := va_S.rf
  have hl := lv_entry ([.ref (b 1), .int (nI i)]) (n := 3) (Nat.le_of_ble_eq_true rfl)
  rw [lg_entry_eq]
  generalize (lg_sl ([.ref (b 1), .int (nI i)]) ++ List.replicate (3 - (lg_sl ([.ref (b 1), .int (nI i)])).length) Slot.unset).toArray = ls at hl ⊢
  have hl : lv_has ls 3 [(0, .ref (b 1)), (1, .int (nI i))] := hl
  have ho2 : ∀ j, j < 400 → oc j < 256 := fun j hj => (ho j hj).2
  obtain ⟨k0, k1, k2, k3, k4, k5⟩ := fi_k hok
  obtain ⟨e1, e2⟩ := fi_e hok
  have gn := fi_n_le hok hn
  have ga := fi_at hok hn hi
  have gb : nu oc 34 2 ≠ 8 → nu oc 32 2 = 2 * nu oc 22 2 := fun z => by rcases k2 with z2 | z2 <;> rw [z2] at k3 <;> omega
  have gc : nu oc 34 2 = 8 → nu oc 32 2 = nu oc 22 2 := fun z => by rw [z] at k3; omega
  refine lv_bipush (v := nI 44) hx hb dFi_sampleAt_0 (by decide +kernel) ?_
  refine lv_iload_n hx hb dFi_sampleAt_2 rfl (lv_at hl 1 rfl) ?_
  refine lv_aload_n hx hb dFi_sampleAt_3 rfl (lv_at hl 0 rfl) ?_
  refine ct_i (va_runV (As := []) (rest := [.int (nI i), .int (nI 44)]) ⟨hx, hb, hml, hown, hts⟩ (kFi_width l dC dI k b P I D _ oc ho) (cwV 0 hts (gw_V tw_380 tw_382 sl_Fi_width tw_2 tw_383) rfl rfl rfl (by decide +kernel) ⟨Nat.le_of_ble_eq_true rfl, Nat.le_of_ble_eq_true rfl⟩) ⟨ct_blind (ev := (fun _ => True)) (fun _ _ _ _ h => h), va_recv hK hP (ci := 4) (q0 := 1) rfl rfl, ct_now (ev := (fun _ => True)) (fun _ _ _ => trivial) hP hK hD⟩ rfl rfl hl.1 rfl (lv_room (Nat.le_of_ble_eq_true rfl)) dFi_sampleAt_4 ⟨Nat.le_of_ble_eq_true rfl, Nat.le_of_ble_eq_true rfl⟩) hD hS hA (fun r1 u1 H locs hw1 hP hD hS => ?_)
  subst hw1
  have b4 := nu_l2 (t := 32) ho2 (by omega)
  refine lv_imul hx hb dFi_sampleAt_7 ?_
  refine rw_i (y := nI (nu oc 32 2 * i)) ((pk_mul _ _).trans (by rw [Nat.mul_comm])) ?_
  refine lv_iadd hx hb dFi_sampleAt_8 ?_
  refine rw_i (y := nI (44 + (nu oc 32 2 * i))) (nI_add _ _) ?_
  refine lv_istore_n (lv' := [(2, .int (nI (44 + (nu oc 32 2 * i)))), (0, .ref (b 1)), (1, .int (nI i))]) hx hb dFi_sampleAt_9 rfl hl (by decide) rfl (fun ls hl => ?_)
  refine lv_aload_n hx hb dFi_sampleAt_10 rfl (lv_at hl 1 rfl) ?_
  refine ct_i (va_runV (As := []) (rest := []) ⟨hx, hb, hml, hown, hts⟩ (kFi_channels l dC dI k b P I D _ oc ho) (cwV 0 hts (gw_V tw_370 tw_372 sl_Fi_channels tw_2 tw_373) rfl rfl rfl (by decide +kernel) ⟨Nat.le_of_ble_eq_true rfl, Nat.le_of_ble_eq_true rfl⟩) ⟨ct_blind (ev := (fun _ => True)) (fun _ _ _ _ h => h), va_recv hK hP (ci := 4) (q0 := 1) rfl rfl, ct_now (ev := (fun _ => True)) (fun _ _ _ => trivial) hP hK hD⟩ rfl rfl hl.1 rfl (lv_room (Nat.le_of_ble_eq_true rfl)) dFi_sampleAt_11 ⟨Nat.le_of_ble_eq_true rfl, Nat.le_of_ble_eq_true rfl⟩) hD hS hA (fun r2 u2 H locs hw2 hP hD hS => ?_)
  subst hw2
  have b11 := nu_l2 (t := 22) ho2 (by omega)
  refine lv_iconst (v := nI 1) hx hb dFi_sampleAt_14 (by decide +kernel) ?_
  refine lv_icmp_ne (tgt := 24) hx hb dFi_sampleAt_15 (by decide) (fun c15 => ?_) (fun c15 => ?_)
  · have c15 : ¬ (nu oc 22 2) = 1 := fun q9 => c15 (show nI (nu oc 22 2) = nI 1 from (nI_eq (a := (nu oc 22 2)) (b := 1) (by omega) (by omega)).mpr q9)
    refine lv_aload_n hx hb dFi_sampleAt_24 rfl (lv_at hl 1 rfl) ?_
    refine lv_iload_n hx hb dFi_sampleAt_25 rfl (lv_at hl 0 rfl) ?_
    refine ct_d (va_runV (As := [.int (nI (44 + (nu oc 32 2 * i)))]) (rest := []) ⟨hx, hb, hml, hown, hts⟩ (kFi_channelAt l dC dI k b P I D _ (44 + (nu oc 32 2 * i)) oc ho (by omega) (by omega)) (cwV 1 hts (gw_V tw_402 tw_404 sl_Fi_channelAt tw_2 tw_405) rfl rfl rfl (by decide +kernel) ⟨Nat.le_of_ble_eq_true rfl, Nat.le_of_ble_eq_true rfl⟩) ⟨ct_blind (ev := (fun _ => True)) (fun _ _ _ _ h => h), va_recv hK hP (ci := 4) (q0 := 1) rfl rfl, ct_now (ev := (fun _ => True)) (fun _ _ _ => trivial) hP hK hD⟩ rfl rfl hl.1 rfl (lv_room (Nat.le_of_ble_eq_true rfl)) dFi_sampleAt_26 ⟨Nat.le_of_ble_eq_true rfl, Nat.le_of_ble_eq_true rfl⟩) hD hS hA (fun r3 u3 H locs hw3 hP hD hS => ?_)
    subst hw3
    refine lv_aload_n hx hb dFi_sampleAt_29 rfl (lv_at hl 1 rfl) ?_
    refine lv_iload_n hx hb dFi_sampleAt_30 rfl (lv_at hl 0 rfl) ?_
    refine lv_aload_n hx hb dFi_sampleAt_31 rfl (lv_at hl 1 rfl) ?_
    refine ct_i (va_runV (As := []) (rest := [.int (nI (44 + (nu oc 32 2 * i))), .ref (b 1), .double (fi_ch oc (nu oc 34 2) (44 + (nu oc 32 2 * i)))]) ⟨hx, hb, hml, hown, hts⟩ (kFi_bits l dC dI k b P I D _ oc ho) (cwV 0 hts (gw_V tw_384 tw_386 sl_Fi_bits tw_2 tw_387) rfl rfl rfl (by decide +kernel) ⟨Nat.le_of_ble_eq_true rfl, Nat.le_of_ble_eq_true rfl⟩) ⟨ct_blind (ev := (fun _ => True)) (fun _ _ _ _ h => h), va_recv hK hP (ci := 4) (q0 := 1) rfl rfl, ct_now (ev := (fun _ => True)) (fun _ _ _ => trivial) hP hK hD⟩ rfl rfl hl.1 rfl (lv_room (Nat.le_of_ble_eq_true rfl)) dFi_sampleAt_32 ⟨Nat.le_of_ble_eq_true rfl, Nat.le_of_ble_eq_true rfl⟩) hD hS hA (fun r4 u4 H locs hw4 hP hD hS => ?_)
    subst hw4
    have b32 := nu_l2 (t := 34) ho2 (by omega)
    refine lv_bipush (v := nI 8) hx hb dFi_sampleAt_35 (by decide +kernel) ?_
    refine lv_idiv hx hb dFi_sampleAt_37 (by decide +kernel) ?_
    refine rw_i (y := nI ((nu oc 34 2) / 8)) (pk_div (by omega) (by omega) (by omega)) ?_
    refine lv_iadd hx hb dFi_sampleAt_38 ?_
    refine rw_i (y := nI ((44 + (nu oc 32 2 * i)) + ((nu oc 34 2) / 8))) (nI_add _ _) ?_
    refine ct_d (va_runV (As := [.int (nI ((44 + (nu oc 32 2 * i)) + ((nu oc 34 2) / 8)))]) (rest := [.double (fi_ch oc (nu oc 34 2) (44 + (nu oc 32 2 * i)))]) ⟨hx, hb, hml, hown, hts⟩ (kFi_channelAt l dC dI k b P I D _ ((44 + (nu oc 32 2 * i)) + ((nu oc 34 2) / 8)) oc ho (by omega) (by omega)) (cwV 1 hts (gw_V tw_402 tw_404 sl_Fi_channelAt tw_2 tw_405) rfl rfl rfl (by decide +kernel) ⟨Nat.le_of_ble_eq_true rfl, Nat.le_of_ble_eq_true rfl⟩) ⟨ct_blind (ev := (fun _ => True)) (fun _ _ _ _ h => h), va_recv hK hP (ci := 4) (q0 := 1) rfl rfl, ct_now (ev := (fun _ => True)) (fun _ _ _ => trivial) hP hK hD⟩ rfl rfl hl.1 rfl (lv_room (Nat.le_of_ble_eq_true rfl)) dFi_sampleAt_39 ⟨Nat.le_of_ble_eq_true rfl, Nat.le_of_ble_eq_true rfl⟩) hD hS hA (fun r5 u5 H locs hw5 hP hD hS => ?_)
    subst hw5
    refine lv_dadd hx hb dFi_sampleAt_42 (fb_n (fi_su_b oc _ _ _) (by decide)) ?_
    refine lv_ldc2d (v := 4611686018427387904) hx hb hown (hts _ tw_409) dFi_sampleAt_43 ?_
    refine rw_d (y := hd_2) rfl ?_
    refine lv_ddiv hx hb dFi_sampleAt_46 (fb_n (fi_hf_b oc _ _ _) (by decide)) ?_
    exact ct_rd hx hb hr hlocks () ((if_neg c15).symm) hP hD hS (Nat.le_refl _) (Nat.le_refl _) dFi_sampleAt_47
  · have c15 : (nu oc 22 2) = 1 := (nI_eq (a := (nu oc 22 2)) (b := 1) (by omega) (by omega)).mp (show nI (nu oc 22 2) = nI 1 from c15)
    refine lv_aload_n hx hb dFi_sampleAt_18 rfl (lv_at hl 1 rfl) ?_
    refine lv_iload_n hx hb dFi_sampleAt_19 rfl (lv_at hl 0 rfl) ?_
    refine ct_d (va_runV (As := [.int (nI (44 + (nu oc 32 2 * i)))]) (rest := []) ⟨hx, hb, hml, hown, hts⟩ (kFi_channelAt l dC dI k b P I D _ (44 + (nu oc 32 2 * i)) oc ho (by omega) (by omega)) (cwV 1 hts (gw_V tw_402 tw_404 sl_Fi_channelAt tw_2 tw_405) rfl rfl rfl (by decide +kernel) ⟨Nat.le_of_ble_eq_true rfl, Nat.le_of_ble_eq_true rfl⟩) ⟨ct_blind (ev := (fun _ => True)) (fun _ _ _ _ h => h), va_recv hK hP (ci := 4) (q0 := 1) rfl rfl, ct_now (ev := (fun _ => True)) (fun _ _ _ => trivial) hP hK hD⟩ rfl rfl hl.1 rfl (lv_room (Nat.le_of_ble_eq_true rfl)) dFi_sampleAt_20 ⟨Nat.le_of_ble_eq_true rfl, Nat.le_of_ble_eq_true rfl⟩) hD hS hA (fun r6 u6 H locs hw6 hP hD hS => ?_)
    subst hw6
    exact ct_rd hx hb hr hlocks () ((if_pos c15).symm) hP hD hS (Nat.le_refl _) (Nat.le_refl _) dFi_sampleAt_23
