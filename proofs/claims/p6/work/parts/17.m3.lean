set_option maxHeartbeats 4000000 in
set_option maxRecDepth 100000 in
theorem kMo_fails0 (l : Launch) (dC : Nat → ClassId) (dI : Nat → Nat → Nat) (k : Nat → ClassId) (b : Nat → Nat) (I : Nat → Nat → Int32) (D : Nat → Nat → UInt64) (sz : Nat) (n : Int32) (h0 : I 0 0 = nI 0) : Met l yMo_fails wMo_fails ({ frames := 0, cells := 0, slots := 0, locals := 0 }) (va_Pc [.ref (b 0), .int (nI 0), .int n] (ct_pre (dC, dI) (mo_ty k) (fun _ => True) (wm k b I D) sz)) (va_Qi (fun r (_ : Unit) => r = nI 0) (fun u t => ct_at (dC, dI) (va_A (wm k b I D) sz) ((fun _ => wm k b I D) u) t) (va_A (wm k b I D) sz)) 0 0 (va_A (wm k b I D) sz) := by
  refine Met.ofW (cc := cMo_fails) (maxL := 3) (ret := (some .boolean)) (by decide) rfl ?_
  intro p e s m args below meth c s₁ B hml hv
  obtain ⟨rfl, hsz, hP, hK, hD0, hE⟩ := hv
  have hx := B.exec
  have hb := B.bytes
  have hr := B.returns
  have hts : ∀ w ∈ W0, w.before [.ref (b 0), .int (nI 0), .int n].toArray s = true := fun w h => atoms_spec (ws := wMo_fails) B.pre w (List.mem_cons_of_mem _ h)
  have hown : s.vm.findClass RMo = some m.cls := findClass_of_methodNamed B.named
  have hlocks := B.notSynchronized
  subst hsz
  have hD := hD0.self (sz := s.heap.size)
  generalize hAe : va_A (wm k b I D) s.heap.size = A at hD ⊢
  have hA : ∀ q : Nat, s.heap.size ≤ q → A q := fun q h => by rw [← hAe]; exact Or.inr h
  have hS : va_S A s.heap s.heap [] := va_S.rf
  have hl := lv_entry ([.ref (b 0), .int (nI 0), .int n]) (n := 3) (Nat.le_of_ble_eq_true rfl)
  rw [lg_entry_eq]
  generalize (lg_sl ([.ref (b 0), .int (nI 0), .int n]) ++ List.replicate (3 - (lg_sl ([.ref (b 0), .int (nI 0), .int n])).length) Slot.unset).toArray = ls at hl ⊢
  have hl : lv_has ls 3 [(0, .ref (b 0)), (1, .int (nI 0)), (2, .int n)] := hl
  refine lv_iload_n hx hb dMo_fails_0 rfl (lv_at hl 1 rfl) ?_
  refine lv_if_eq (tgt := 16) hx hb dMo_fails_1 (by decide) (fun c1 => ?_) (fun c1 => ?_)
  · have c1 : 0 = 0 := (nI_eq (a := 0) (b := 0) (by omega) (by omega)).mp (show nI 0 = nI 0 from c1)
    refine lv_aload_n hx hb dMo_fails_16 rfl (lv_at hl 0 rfl) ?_
    refine va_get (D := (dC, dI)) (ci := 8) (v := .int (I 0 0)) (C := RMo) (T := TMo) (N := 27) hx hb hts inMo hown hK hP 0 rfl rfl 0 (by decide) (hts _ tw_647) (fun _ h9 => h9) rfl dMo_fails_17 ?_
    refine rw_i (y := nI 0) h0 ?_
    refine lv_if_eq (tgt := 27) hx hb dMo_fails_20 (by decide) (fun c20 => ?_) (fun c20 => ?_)
    · have c20 : 0 = 0 := (nI_eq (a := 0) (b := 0) (by omega) (by omega)).mp (show nI 0 = nI 0 from c20)
      refine lv_iconst (v := nI 0) hx hb dMo_fails_27 (by decide +kernel) ?_
      exact ct_rz hx hb hr hlocks () rfl hP hD hS (Nat.le_refl _) (Nat.le_refl _) dMo_fails_28
    · have c20 : ¬ 0 = 0 := fun q9 => c20 (show nI 0 = nI 0 from (nI_eq (a := 0) (b := 0) (by omega) (by omega)).mpr q9)
      exact absurd (by decide) c20
  · have c1 : ¬ 0 = 0 := fun q9 => c1 (show nI 0 = nI 0 from (nI_eq (a := 0) (b := 0) (by omega) (by omega)).mpr q9)
    exact absurd (by decide) c1
set_option maxHeartbeats 4000000 in
set_option maxRecDepth 100000 in
theorem kMo_fails1 (l : Launch) (dC : Nat → ClassId) (dI : Nat → Nat → Nat) (k : Nat → ClassId) (b : Nat → Nat) (I : Nat → Nat → Int32) (D : Nat → Nat → UInt64) (sz : Nat) (n : Nat) (hn : 0 < n) (hn2 : n < 100) (h0 : I 0 0 = nI 0) : Met l yMo_fails wMo_fails ({ frames := 0, cells := 0, slots := 0, locals := 0 }) (va_Pc [.ref (b 0), .int (nI 1), .int (nI n)] (ct_pre (dC, dI) (mo_ty k) (fun _ => True) (wm k b I D) sz)) (va_Qi (fun r (u : Nat → Nat → Int32) => r = nI 1 ∧ u = ui I 0 0 (nI n)) (fun u t => ct_at (dC, dI) (va_A (wm k b I D) sz) ((fun u => wm k b u D) u) t) (va_A (wm k b I D) sz)) 0 0 (va_A (wm k b I D) sz) := by
  refine Met.ofW (cc := cMo_fails) (maxL := 3) (ret := (some .boolean)) (by decide) rfl ?_
  intro p e s m args below meth c s₁ B hml hv
  obtain ⟨rfl, hsz, hP, hK, hD0, hE⟩ := hv
  have hx := B.exec
  have hb := B.bytes
  have hr := B.returns
  have hts : ∀ w ∈ W0, w.before [.ref (b 0), .int (nI 1), .int (nI n)].toArray s = true := fun w h => atoms_spec (ws := wMo_fails) B.pre w (List.mem_cons_of_mem _ h)
  have hown : s.vm.findClass RMo = some m.cls := findClass_of_methodNamed B.named
  have hlocks := B.notSynchronized
  subst hsz
  have hD := hD0.self (sz := s.heap.size)
  generalize hAe : va_A (wm k b I D) s.heap.size = A at hD ⊢
  have hA : ∀ q : Nat, s.heap.size ≤ q → A q := fun q h => by rw [← hAe]; exact Or.inr h
  have hS : va_S A s.heap s.heap [] := va_S.rf
  have hl := lv_entry ([.ref (b 0), .int (nI 1), .int (nI n)]) (n := 3) (Nat.le_of_ble_eq_true rfl)
  rw [lg_entry_eq]
  generalize (lg_sl ([.ref (b 0), .int (nI 1), .int (nI n)]) ++ List.replicate (3 - (lg_sl ([.ref (b 0), .int (nI 1), .int (nI n)])).length) Slot.unset).toArray = ls at hl ⊢
  have hl : lv_has ls 3 [(0, .ref (b 0)), (1, .int (nI 1)), (2, .int (nI n))] := hl
  refine lv_iload_n hx hb dMo_fails_0 rfl (lv_at hl 1 rfl) ?_
  refine lv_if_eq (tgt := 16) hx hb dMo_fails_1 (by decide) (fun c1 => ?_) (fun c1 => ?_)
  · have c1 : 1 = 0 := (nI_eq (a := 1) (b := 0) (by omega) (by omega)).mp (show nI 1 = nI 0 from c1)
    exact absurd c1 (by decide)
  · have c1 : ¬ 1 = 0 := fun q9 => c1 (show nI 1 = nI 0 from (nI_eq (a := 1) (b := 0) (by omega) (by omega)).mpr q9)
    refine lv_aload_n hx hb dMo_fails_4 rfl (lv_at hl 0 rfl) ?_
    refine va_get (D := (dC, dI)) (ci := 8) (v := .int (I 0 0)) (C := RMo) (T := TMo) (N := 27) hx hb hts inMo hown hK hP 0 rfl rfl 0 (by decide) (hts _ tw_647) (fun _ h9 => h9) rfl dMo_fails_5 ?_
    refine rw_i (y := nI 0) h0 ?_
    refine lv_if_ne (tgt := 16) hx hb dMo_fails_8 (by decide) (fun c8 => ?_) (fun c8 => ?_)
    · have c8 : ¬ 0 = 0 := fun q9 => c8 (show nI 0 = nI 0 from (nI_eq (a := 0) (b := 0) (by omega) (by omega)).mpr q9)
      exact absurd (by decide) c8
    · have c8 : 0 = 0 := (nI_eq (a := 0) (b := 0) (by omega) (by omega)).mp (show nI 0 = nI 0 from c8)
      refine lv_aload_n hx hb dMo_fails_11 rfl (lv_at hl 0 rfl) ?_
      refine lv_iload_n hx hb dMo_fails_12 rfl (lv_at hl 2 rfl) ?_
      refine va_put (D := (dC, dI)) (ci := 8) (fs := mo_f b I D) (v := .int (nI n)) (ty := .int) (C := RMo) (T := TMo) (N := 27) hx hb hts inMo tyMo tyMo_ok nmMo hown hK hP hD hS 0 rfl rfl 0 (by decide) (hts _ tw_647) (fun _ h9 => h9) rfl (by decide +kernel) rfl rfl (Nat.le_of_ble_eq_true rfl) dMo_fails_13 (fun H locs hP hD hS => ?_)
      rw [wm_p0] at hP hD
      obtain ⟨I1, eI1⟩ : ∃ z, z = ui I 0 0 (nI n) := ⟨_, rfl⟩
      rw [← eI1] at hP hD
      refine lv_aload_n hx hb dMo_fails_16 rfl (lv_at hl 0 rfl) ?_
      refine va_get (D := (dC, dI)) (ci := 8) (v := .int (I1 0 0)) (C := RMo) (T := TMo) (N := 27) hx hb hts inMo hown hK hP 0 rfl rfl 0 (by decide) (hts _ tw_647) (fun _ h9 => h9) rfl dMo_fails_17 ?_
      refine rw_i (y := nI n) (by rw [eI1, ui_s]) ?_
      refine lv_if_eq (tgt := 27) hx hb dMo_fails_20 (by decide) (fun c20 => ?_) (fun c20 => ?_)
      · have c20 : n = 0 := (nI_eq (a := n) (b := 0) (by omega) (by omega)).mp (show nI n = nI 0 from c20)
        exact absurd c20 (by omega)
      · have c20 : ¬ n = 0 := fun q9 => c20 (show nI n = nI 0 from (nI_eq (a := n) (b := 0) (by omega) (by omega)).mpr q9)
        refine lv_iconst (v := nI 1) hx hb dMo_fails_23 (by decide +kernel) ?_
        refine lv_goto (tgt := 28) hx hb dMo_fails_24 (by decide) ?_
        exact ct_rz hx hb hr hlocks I1 (⟨rfl, eI1⟩) hP hD hS (Nat.le_refl _) (Nat.le_refl _) dMo_fails_28
set_option maxHeartbeats 4000000 in
set_option maxRecDepth 100000 in
theorem kMo_sample (l : Launch) (dC : Nat → ClassId) (dI : Nat → Nat → Nat) (k : Nat → ClassId) (b : Nat → Nat) (I : Nat → Nat → Int32) (D : Nat → Nat → UInt64) (sz : Nat) (i : Int32) (ns : Nat) (hn : ns ≤ 320) (h3 : I 0 3 = nI ns) : Met l yMo_sample wMo_sample ({ frames := 1, cells := 0, slots := 0, locals := 25 }) (va_Pc [.ref (b 0), .int i] (ct_pre (dC, dI) (mo_ty k) (fun _ => True) (wm k b I D) sz)) (va_Qd (fun r (u : Nat → Nat → Int32) => ((¬ ∃ j, j < ns ∧ i = nI j) ∧ u = ui (ui I 0 0 (nI 0)) 0 0 (nI 1)) ∨ (∃ j, j < ns ∧ i = nI j ∧ u = ui I 0 0 (nI 0) ∧ r = D 1 j)) (fun u t => ct_at (dC, dI) (va_A (wm k b I D) sz) ((fun u => wm k b u D) u) t) (va_A (wm k b I D) sz)) 0 0 (va_A (wm k b I D) sz) := by
  refine Met.ofW (cc := cMo_sample) (maxL := 2) (ret := (some .double)) (by decide) rfl ?_
  intro p e s m args below meth c s₁ B hml hv
  obtain ⟨rfl, hsz, hP, hK, hD0, hE⟩ := hv
  have hx := B.exec
  have hb := B.bytes
  have hr := B.returns
  have hts : ∀ w ∈ W0, w.before [.ref (b 0), .int i].toArray s = true := fun w h => atoms_spec (ws := wMo_sample) B.pre w (List.mem_cons_of_mem _ h)
  have hown : s.vm.findClass RMo = some m.cls := findClass_of_methodNamed B.named
  have hlocks := B.notSynchronized
  subst hsz
  have hD := hD0.self (sz := s.heap.size)
  generalize hAe : va_A (wm k b I D) s.heap.size = A at hD ⊢
  have hA : ∀ q : Nat, s.heap.size ≤ q → A q := fun q h => by rw [← hAe]; exact Or.inr h
  have hS : va_S A s.heap s.heap [] := va_S.rf
  have hl := lv_entry ([.ref (b 0), .int i]) (n := 2) (Nat.le_of_ble_eq_true rfl)
  rw [lg_entry_eq]
  generalize (lg_sl ([.ref (b 0), .int i]) ++ List.replicate (2 - (lg_sl ([.ref (b 0), .int i])).length) Slot.unset).toArray = ls at hl ⊢
  have hl : lv_has ls 2 [(0, .ref (b 0)), (1, .int i)] := hl
  refine lv_aload_n hx hb dMo_sample_0 rfl (lv_at hl 0 rfl) ?_
  refine lv_iconst (v := nI 0) hx hb dMo_sample_1 (by decide +kernel) ?_
  refine va_put (D := (dC, dI)) (ci := 8) (fs := mo_f b I D) (v := .int (nI 0)) (ty := .int) (C := RMo) (T := TMo) (N := 27) hx hb hts inMo tyMo tyMo_ok nmMo hown hK hP hD hS 0 rfl rfl 0 (by decide) (hts _ tw_647) (fun _ h9 => h9) rfl (by decide +kernel) rfl rfl (Nat.le_of_ble_eq_true rfl) dMo_sample_2 (fun H locs hP hD hS => ?_)
  rw [wm_p0] at hP hD
  obtain ⟨I1, eI1⟩ : ∃ z, z = ui I 0 0 (nI 0) := ⟨_, rfl⟩
  rw [← eI1] at hP hD
  refine lv_aload_n hx hb dMo_sample_5 rfl (lv_at hl 0 rfl) ?_
  refine lv_iload_n hx hb dMo_sample_6 rfl (lv_at hl 1 rfl) ?_
  refine lv_i2l (v := i.toInt64) hx hb dMo_sample_7 rfl ?_
  refine lv_lconst (v := lN 0) hx hb dMo_sample_8 (by decide +kernel) ?_
  refine lv_aload_n hx hb dMo_sample_9 rfl (lv_at hl 0 rfl) ?_
  refine va_get (D := (dC, dI)) (ci := 8) (v := .int (I1 0 3)) (C := RMo) (T := TMo) (N := 27) hx hb hts inMo hown hK hP 0 rfl rfl 3 (by decide) (hts _ tw_650) (fun _ h9 => h9) rfl dMo_sample_10 ?_
  refine rw_i (y := I 0 3) (by rw [eI1, ui_n _ _ _ (by decide)]) ?_
  refine rw_i (y := nI ns) h3 ?_
  refine lv_iconst (v := nI 1) hx hb dMo_sample_13 (by decide +kernel) ?_
  refine lv_isub hx hb dMo_sample_14 ?_
  refine lv_i2l (v := ((nI ns) - (nI 1)).toInt64) hx hb dMo_sample_15 rfl ?_
  refine ct_i (va_runS (As := [.long i.toInt64, .long (lN 0), .long (((nI ns) - (nI 1)).toInt64)]) (rest := [.ref (b 0)]) ⟨hx, hb, hml, hown, hts⟩ (kMo_in l dC dI k b I1 D _ i.toInt64 (lN 0) (((nI ns) - (nI 1)).toInt64)) (va_cwS 3 hts (gw_S tw_734 tw_735 tw_9 tw_736) rfl rfl rfl (by decide +kernel) ⟨Nat.le_of_ble_eq_true rfl, Nat.le_of_ble_eq_true rfl⟩) ⟨ct_blind (ev := fun _ => True) (fun _ _ _ _ h => h), ct_now (ev := fun _ => True) (fun _ _ _ => trivial) hP hK hD⟩ rfl rfl hl.1 rfl (lv_room (Nat.le_of_ble_eq_true rfl)) dMo_sample_16 ⟨Nat.le_of_ble_eq_true rfl, Nat.le_of_ble_eq_true rfl⟩) hD hS hA (fun r2 u2 H locs hw2 hP hD hS => ?_)
  by_cases g16 : lN 0 ≤ i.toInt64 ∧ i.toInt64 ≤ ((nI ns) - (nI 1)).toInt64
  · rw [if_pos g16] at hw2
    subst hw2
    refine rw_i (y := nI 1) rfl ?_
    obtain ⟨j, hj, rfl⟩ := in_0n hn g16
    refine lv_if_ne (tgt := 26) hx hb dMo_sample_19 (by decide) (fun c19 => ?_) (fun c19 => ?_)
    · have c19 : ¬ 1 = 0 := fun q9 => c19 (show nI 1 = nI 0 from (nI_eq (a := 1) (b := 0) (by omega) (by omega)).mpr q9)
      refine lv_iconst (v := nI 0) hx hb dMo_sample_26 (by decide +kernel) ?_
      refine lv_iconst (v := nI 1) hx hb dMo_sample_27 (by decide +kernel) ?_
      refine ct_i (va_runV (As := [.int (nI 0), .int (nI 1)]) (rest := []) ⟨hx, hb, hml, hown, hts⟩ (kMo_fails0 l dC dI k b I1 D _ (nI 1) (by rw [eI1, ui_s])) (cwV 2 hts (gw_V tw_737 tw_739 sl_Mo_fails tw_9 tw_740) rfl rfl rfl (by decide +kernel) ⟨Nat.le_of_ble_eq_true rfl, Nat.le_of_ble_eq_true rfl⟩) ⟨ct_blind (ev := fun _ => True) (fun _ _ _ _ h => h), va_recv hK hP (ci := 8) (q0 := 0) rfl rfl, ct_now (ev := fun _ => True) (fun _ _ _ => trivial) hP hK hD⟩ rfl rfl hl.1 rfl (lv_room (Nat.le_of_ble_eq_true rfl)) dMo_sample_28 ⟨Nat.le_of_ble_eq_true rfl, Nat.le_of_ble_eq_true rfl⟩) hD hS hA (fun r3 u3 H locs hw3 hP hD hS => ?_)
      subst hw3
      refine lv_if_eq (tgt := 38) hx hb dMo_sample_31 (by decide) (fun c31 => ?_) (fun c31 => ?_)
      · have c31 : 0 = 0 := (nI_eq (a := 0) (b := 0) (by omega) (by omega)).mp (show nI 0 = nI 0 from c31)
        refine lv_aload_n hx hb dMo_sample_38 rfl (lv_at hl 0 rfl) ?_
        refine va_get (D := (dC, dI)) (ci := 8) (v := .ref (b 8)) (C := RMo) (T := TMo) (N := 27) hx hb hts inMo hown hK hP 0 rfl rfl 19 (by decide) (hts _ tw_666) (fun _ h9 => h9) rfl dMo_sample_39 ?_
        refine lv_iload_n hx hb dMo_sample_42 rfl (lv_at hl 1 rfl) ?_
        refine rw_ald_d hx hb hK hP 8 1 rfl rfl (by omega) (by decide) dMo_sample_43 ?_
        exact ct_rd hx hb hr hlocks I1 (Or.inr ⟨j, hj, rfl, by rw [eI1], rfl⟩) hP hD hS (Nat.le_refl _) (Nat.le_refl _) dMo_sample_44
      · have c31 : ¬ 0 = 0 := fun q9 => c31 (show nI 0 = nI 0 from (nI_eq (a := 0) (b := 0) (by omega) (by omega)).mpr q9)
        exact absurd (by decide) c31
    · have c19 : 1 = 0 := (nI_eq (a := 1) (b := 0) (by omega) (by omega)).mp (show nI 1 = nI 0 from c19)
      exact absurd c19 (by decide)
  · rw [if_neg g16] at hw2
    subst hw2
    refine rw_i (y := nI 0) rfl ?_
    refine lv_if_ne (tgt := 26) hx hb dMo_sample_19 (by decide) (fun c19 => ?_) (fun c19 => ?_)
    · have c19 : ¬ 0 = 0 := fun q9 => c19 (show nI 0 = nI 0 from (nI_eq (a := 0) (b := 0) (by omega) (by omega)).mpr q9)
      exact absurd (by decide) c19
    · have c19 : 0 = 0 := (nI_eq (a := 0) (b := 0) (by omega) (by omega)).mp (show nI 0 = nI 0 from c19)
      refine lv_iconst (v := nI 1) hx hb dMo_sample_22 (by decide +kernel) ?_
      refine lv_goto (tgt := 27) hx hb dMo_sample_23 (by decide) ?_
      refine lv_iconst (v := nI 1) hx hb dMo_sample_27 (by decide +kernel) ?_
      refine ct_i (va_runV (As := [.int (nI 1), .int (nI 1)]) (rest := []) ⟨hx, hb, hml, hown, hts⟩ (kMo_fails1 l dC dI k b I1 D _ 1 (by omega) (by omega) (by rw [eI1, ui_s])) (cwV 2 hts (gw_V tw_737 tw_739 sl_Mo_fails tw_9 tw_740) rfl rfl rfl (by decide +kernel) ⟨Nat.le_of_ble_eq_true rfl, Nat.le_of_ble_eq_true rfl⟩) ⟨ct_blind (ev := fun _ => True) (fun _ _ _ _ h => h), va_recv hK hP (ci := 8) (q0 := 0) rfl rfl, ct_now (ev := fun _ => True) (fun _ _ _ => trivial) hP hK hD⟩ rfl rfl hl.1 rfl (lv_room (Nat.le_of_ble_eq_true rfl)) dMo_sample_28 ⟨Nat.le_of_ble_eq_true rfl, Nat.le_of_ble_eq_true rfl⟩) hD hS hA (fun r4 u4 H locs hw4 hP hD hS => ?_)
      obtain ⟨r4e, eu4⟩ := hw4
      subst r4e
      refine lv_if_eq (tgt := 38) hx hb dMo_sample_31 (by decide) (fun c31 => ?_) (fun c31 => ?_)
      · have c31 : 1 = 0 := (nI_eq (a := 1) (b := 0) (by omega) (by omega)).mp (show nI 1 = nI 0 from c31)
        exact absurd c31 (by decide)
      · have c31 : ¬ 1 = 0 := fun q9 => c31 (show nI 1 = nI 0 from (nI_eq (a := 1) (b := 0) (by omega) (by omega)).mpr q9)
        refine lv_dconst0 hx hb dMo_sample_34 ?_
        refine rw_d (y := 0) rfl ?_
        refine lv_goto (tgt := 44) hx hb dMo_sample_35 (by decide) ?_
        exact ct_rd hx hb hr hlocks u4 (Or.inl ⟨fun q => g16 (in_n0 hn q), by rw [eu4, eI1]⟩) hP hD hS (Nat.le_refl _) (Nat.le_refl _) dMo_sample_44
