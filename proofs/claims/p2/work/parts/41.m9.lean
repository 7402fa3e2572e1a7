theorem lr_no {f : Int32} {q : Nat} (h1 : 1 ≤ q) (h2 : q ≤ 8) : ¬ (lN 0 ≤ f.toInt64 ∧ f.toInt64 ≤ lN 0 - lN q) := by
  rintro ⟨h3, h4⟩
  have h5 := Int64.le_iff_toInt_le.mp (Int64.le_trans h3 h4)
  rcases (show q = 1 ∨ q = 2 ∨ q = 3 ∨ q = 4 ∨ q = 5 ∨ q = 6 ∨ q = 7 ∨ q = 8 by omega) with rfl | rfl | rfl | rfl | rfl | rfl | rfl | rfl <;> exact absurd h5 (by decide)
theorem in_e {i : Int32} : ¬ (lN 0 ≤ i.toInt64 ∧ i.toInt64 ≤ (nI 0 - nI 1).toInt64) := fun h => by
  obtain ⟨j, hj, -⟩ := in_0n (n := 0) (by decide) h
  exact Nat.not_lt_zero _ hj
set_option maxHeartbeats 4000000 in
set_option maxRecDepth 100000 in
theorem kMo_wrong0 (l : Launch) (dC : Nat → ClassId) (dI : Nat → Nat → Nat) (k : Nat → ClassId) (b : Nat → Nat) (I : Nat → Nat → Int32) (D : Nat → Nat → UInt64) (sz : Nat) (n : Nat) (hn : n < 44) (h1 : I 0 1 = nI n) : Met l yMo_wrong wMo_wrong ({ frames := 0, cells := 0, slots := 0, locals := 0 }) (va_Pc [.ref (b 0)] (ct_pre (dC, dI) (mo_ty k) (fun _ => True) (wm k b I D) sz)) (va_Qi (fun r (_ : Unit) => r = nI n) (fun u t => ct_at (dC, dI) (va_A (wm k b I D) sz) ((fun _ => wm k b I D) u) t) (va_A (wm k b I D) sz)) 0 0 (va_A (wm k b I D) sz) := by
  refine Met.ofW (cc := cMo_wrong) (maxL := 9) (ret := (some .int)) (by decide) rfl ?_
  intro p e s m args below meth c s₁ B hml hv
  obtain ⟨rfl, hsz, hP, hK, hD0, hE⟩ := hv
  have hx := B.exec
  have hb := B.bytes
  have hr := B.returns
  have hts : ∀ w ∈ W0, w.before [.ref (b 0)].toArray s = true := fun w h => atoms_spec (ws := wMo_wrong) B.pre w (List.mem_cons_of_mem _ h)
  have hown : s.vm.findClass RMo = some m.cls := findClass_of_methodNamed B.named
  have hlocks := B.notSynchronized
  subst hsz
  have hD := hD0.self (sz := s.heap.size)
  generalize hAe : va_A (wm k b I D) s.heap.size = A at hD ⊢
  have hA : ∀ q : Nat, s.heap.size ≤ q → A q := fun q h => by rw [← hAe]; exact Or.inr h
  have hS : va_S A s.heap s.heap [] := va_S.rf
  have hl := lv_entry ([.ref (b 0)]) (n := 9) (Nat.le_of_ble_eq_true rfl)
  rw [lg_entry_eq]
  generalize (lg_sl ([.ref (b 0)]) ++ List.replicate (9 - (lg_sl ([.ref (b 0)])).length) Slot.unset).toArray = ls at hl ⊢
  have hl : lv_has ls 9 [(0, .ref (b 0))] := hl
  refine lv_aload_n hx hb dMo_wrong_0 rfl (lv_at hl 0 rfl) ?_
  refine va_get (D := (dC, dI)) (ci := 8) (v := .int (I 0 1)) (C := RMo) (T := TMo) (N := 27) hx hb hts inMo hown hK hP 0 rfl rfl 1 (by decide) (hts _ tw_648) (fun _ h9 => h9) rfl dMo_wrong_1 ?_
  refine rw_i (y := nI n) h1 ?_
  refine lv_bipush (v := nI 44) hx hb dMo_wrong_4 (by decide +kernel) ?_
  refine lv_icmp_ge (tgt := 14) hx hb dMo_wrong_6 (by decide) (fun c6 => ?_) (fun c6 => ?_)
  · have c6 : 44 ≤ n := (nI_leI (a := 44) (b := n) (by omega) (by omega)).mp (show nI 44 ≤ nI n from c6)
    exact absurd c6 (by omega)
  · have c6 : ¬ 44 ≤ n := fun q9 => c6 (show nI 44 ≤ nI n from (nI_leI (a := 44) (b := n) (by omega) (by omega)).mpr q9)
    refine lv_aload_n hx hb dMo_wrong_9 rfl (lv_at hl 0 rfl) ?_
    refine va_get (D := (dC, dI)) (ci := 8) (v := .int (I 0 1)) (C := RMo) (T := TMo) (N := 27) hx hb hts inMo hown hK hP 0 rfl rfl 1 (by decide) (hts _ tw_648) (fun _ h9 => h9) rfl dMo_wrong_10 ?_
    refine rw_i (y := nI n) h1 ?_
    exact ct_ri hx hb hr hlocks () rfl hP hD hS (Nat.le_refl _) (Nat.le_refl _) dMo_wrong_13
set_option maxHeartbeats 4000000 in
set_option maxRecDepth 100000 in
theorem kMo_read0 (l : Launch) (dC : Nat → ClassId) (dI : Nat → Nat → Nat) (k : Nat → ClassId) (b : Nat → Nat) (I : Nat → Nat → Int32) (D : Nat → Nat → UInt64) (sz : Nat) (n : Nat) (hn : n < 44) (h1 : I 0 1 = nI n) : Met l yMo_read wMo_read ({ frames := 1, cells := 0, slots := 0, locals := 28 }) (va_Pc [.ref (b 0)] (ct_pre (dC, dI) (mo_ty k) (fun _ => True) (wm k b I D) sz)) (va_Qi (fun _ (u : Nat → Nat → Int32) => u 0 0 = nI 1) (fun u t => ct_at (dC, dI) (va_A (wm k b I D) sz) ((fun u => wm k b u D) u) t) (va_A (wm k b I D) sz)) 0 0 (va_A (wm k b I D) sz) := by
  refine Met.ofW (cc := cMo_read) (maxL := 8) (ret := (some .int)) (by decide) rfl ?_
  intro p e s m args below meth c s₁ B hml hv
  obtain ⟨rfl, hsz, hP, hK, hD0, hE⟩ := hv
  have hx := B.exec
  have hb := B.bytes
  have hr := B.returns
  have hts : ∀ w ∈ W0, w.before [.ref (b 0)].toArray s = true := fun w h => atoms_spec (ws := wMo_read) B.pre w (List.mem_cons_of_mem _ h)
  have hown : s.vm.findClass RMo = some m.cls := findClass_of_methodNamed B.named
  have hlocks := B.notSynchronized
  subst hsz
  have hD := hD0.self (sz := s.heap.size)
  generalize hAe : va_A (wm k b I D) s.heap.size = A at hD ⊢
  have hA : ∀ q : Nat, s.heap.size ≤ q → A q := fun q h => by rw [← hAe]; exact Or.inr h
  have hS : va_S A s.heap s.heap [] := va_S.rf
  have hl := lv_entry ([.ref (b 0)]) (n := 8) (Nat.le_of_ble_eq_true rfl)
  rw [lg_entry_eq]
  generalize (lg_sl ([.ref (b 0)]) ++ List.replicate (8 - (lg_sl ([.ref (b 0)])).length) Slot.unset).toArray = ls at hl ⊢
  have hl : lv_has ls 8 [(0, .ref (b 0))] := hl
  refine lv_aload_n hx hb dMo_read_0 rfl (lv_at hl 0 rfl) ?_
  refine lv_iconst (v := nI 0) hx hb dMo_read_1 (by decide +kernel) ?_
  refine va_put (D := (dC, dI)) (ci := 8) (fs := mo_f b I D) (v := .int (nI 0)) (ty := .int) (C := RMo) (T := TMo) (N := 27) hx hb hts inMo tyMo tyMo_ok nmMo hown hK hP hD hS 0 rfl rfl 0 (by decide) (hts _ tw_647) (fun _ h9 => h9) rfl (by decide +kernel) rfl rfl (Nat.le_of_ble_eq_true rfl) dMo_read_2 (fun H locs hP hD hS => ?_)
  rw [wm_p0] at hP hD
  obtain ⟨I1, eI1⟩ : ∃ z, z = ui I 0 0 (nI 0) := ⟨_, rfl⟩
  rw [← eI1] at hP hD
  refine lv_aload_n hx hb dMo_read_5 rfl (lv_at hl 0 rfl) ?_
  refine lv_aload_n hx hb dMo_read_6 rfl (lv_at hl 0 rfl) ?_
  refine ct_i (va_runV (As := []) (rest := [.ref (b 0)]) ⟨hx, hb, hml, hown, hts⟩ (kMo_wrong0 l dC dI k b I1 D _ n hn (by rw [eI1, ui_n _ _ _ (by decide)]; exact h1)) (cwV 0 hts (gw_V tw_750 tw_752 sl_Mo_wrong tw_9 tw_753) rfl rfl rfl (by decide +kernel) ⟨Nat.le_of_ble_eq_true rfl, Nat.le_of_ble_eq_true rfl⟩) ⟨ct_blind (ev := fun _ => True) (fun _ _ _ _ h => h), va_recv hK hP (ci := 8) (q0 := 0) rfl rfl, ct_now (ev := fun _ => True) (fun _ _ _ => trivial) hP hK hD⟩ rfl rfl hl.1 rfl (lv_room (Nat.le_of_ble_eq_true rfl)) dMo_read_7 ⟨Nat.le_of_ble_eq_true rfl, Nat.le_of_ble_eq_true rfl⟩) hD hS hA (fun r2 u2 H locs hw2 hP hD hS => ?_)
  subst hw2
  refine va_put (D := (dC, dI)) (ci := 8) (fs := mo_f b I1 D) (v := .int (nI n)) (ty := .int) (C := RMo) (T := TMo) (N := 27) hx hb hts inMo tyMo tyMo_ok nmMo hown hK hP hD hS 0 rfl rfl 2 (by decide) (hts _ tw_649) (fun _ h9 => h9) rfl (by decide +kernel) rfl rfl (Nat.le_of_ble_eq_true rfl) dMo_read_10 (fun H locs hP hD hS => ?_)
  rw [wm_p2] at hP hD
  obtain ⟨I3, eI3⟩ : ∃ z, z = ui I1 0 2 (nI n) := ⟨_, rfl⟩
  rw [← eI3] at hP hD
  refine lv_aload_n hx hb dMo_read_13 rfl (lv_at hl 0 rfl) ?_
  refine va_get (D := (dC, dI)) (ci := 8) (v := .int (I3 0 2)) (C := RMo) (T := TMo) (N := 27) hx hb hts inMo hown hK hP 0 rfl rfl 2 (by decide) (hts _ tw_649) (fun _ h9 => h9) rfl dMo_read_14 ?_
  refine rw_i (y := nI n) (by rw [eI3, ui_s]) ?_
  refine lv_if_lt (tgt := 34) hx hb dMo_read_17 (by decide) (fun c17 => ?_) (fun c17 => ?_)
  · have c17 : n < 0 := (nI_ltI (a := n) (b := 0) (by omega) (by omega)).mp (show nI n < nI 0 from c17)
    exact absurd c17 (Nat.not_lt_zero _)
  · have c17 : ¬ n < 0 := fun q9 => c17 (show nI n < nI 0 from (nI_ltI (a := n) (b := 0) (by omega) (by omega)).mpr q9)
    refine lv_aload_n hx hb dMo_read_20 rfl (lv_at hl 0 rfl) ?_
    refine lv_iconst (v := nI 0) hx hb dMo_read_21 (by decide +kernel) ?_
    refine va_put (D := (dC, dI)) (ci := 8) (fs := mo_f b I3 D) (v := .int (nI 0)) (ty := .int) (C := RMo) (T := TMo) (N := 27) hx hb hts inMo tyMo tyMo_ok nmMo hown hK hP hD hS 0 rfl rfl 1 (by decide) (hts _ tw_648) (fun _ h9 => h9) rfl (by decide +kernel) rfl rfl (Nat.le_of_ble_eq_true rfl) dMo_read_22 (fun H locs hP hD hS => ?_)
    rw [wm_p1] at hP hD
    obtain ⟨I4, eI4⟩ : ∃ z, z = ui I3 0 1 (nI 0) := ⟨_, rfl⟩
    rw [← eI4] at hP hD
    refine lv_aload_n hx hb dMo_read_25 rfl (lv_at hl 0 rfl) ?_
    refine lv_iconst (v := nI 1) hx hb dMo_read_26 (by decide +kernel) ?_
    refine lv_iconst (v := nI 1) hx hb dMo_read_27 (by decide +kernel) ?_
    refine ct_i (va_runV (As := [.int (nI 1), .int (nI 1)]) (rest := []) ⟨hx, hb, hml, hown, hts⟩ (kMo_fails1 l dC dI k b I4 D _ 1 (by omega) (by omega) (by rw [eI4, ui_n _ _ _ (by decide), eI3, ui_n _ _ _ (by decide), eI1, ui_s])) (cwV 2 hts (gw_V tw_741 tw_743 sl_Mo_fails tw_9 tw_744) rfl rfl rfl (by decide +kernel) ⟨Nat.le_of_ble_eq_true rfl, Nat.le_of_ble_eq_true rfl⟩) ⟨ct_blind (ev := fun _ => True) (fun _ _ _ _ h => h), va_recv hK hP (ci := 8) (q0 := 0) rfl rfl, ct_now (ev := fun _ => True) (fun _ _ _ => trivial) hP hK hD⟩ rfl rfl hl.1 rfl (lv_room (Nat.le_of_ble_eq_true rfl)) dMo_read_28 ⟨Nat.le_of_ble_eq_true rfl, Nat.le_of_ble_eq_true rfl⟩) hD hS hA (fun r5 u5 H locs hw5 hP hD hS => ?_)
    obtain ⟨r5e, eu5⟩ := hw5
    subst r5e
    refine lv_pop hx hb dMo_read_31 rfl ?_
    refine lv_iconst (v := nI 0) hx hb dMo_read_32 (by decide +kernel) ?_
    exact ct_ri hx hb hr hlocks u5 (by rw [eu5, ui_s]) hP hD hS (Nat.le_refl _) (Nat.le_refl _) dMo_read_33
set_option maxHeartbeats 4000000 in
set_option maxRecDepth 100000 in
theorem kMo_learn0 (l : Launch) (dC : Nat → ClassId) (dI : Nat → Nat → Nat) (k : Nat → ClassId) (b : Nat → Nat) (I : Nat → Nat → Int32) (D : Nat → Nat → UInt64) (sz : Nat) (le f9 n9 : Int32) (n : Nat) (hn : n < 32) (h3 : I 0 3 = nI n) : Met l yMo_learn wMo_learn ({ frames := 1, cells := 0, slots := 0, locals := 25 }) (va_Pc [.ref (b 0), .int le, .int f9, .int n9] (ct_pre (dC, dI) (mo_ty k) (fun _ => True) (wm k b I D) sz)) (va_Qi (fun _ (u : Nat → Nat → Int32) => ((¬ ((∃ q, 97 ≤ q ∧ q ≤ 122 ∧ le = nI q) ∧ ∃ q, 1 ≤ q ∧ q ≤ 8 ∧ n9 = nI q)) ∧ u 0 0 = nI 1) ∨ ((∃ q, 97 ≤ q ∧ q ≤ 122 ∧ le = nI q) ∧ (∃ q, 1 ≤ q ∧ q ≤ 8 ∧ n9 = nI q) ∧ u 0 0 = nI 2)) (fun u t => ct_at (dC, dI) (va_A (wm k b I D) sz) ((fun u => wm k b u D) u) t) (va_A (wm k b I D) sz)) 0 0 (va_A (wm k b I D) sz) := by
  refine Met.ofW (cc := cMo_learn) (maxL := 6) (ret := (some .int)) (by decide) rfl ?_
  intro p e s m args below meth c s₁ B hml hv
  obtain ⟨rfl, hsz, hP, hK, hD0, hE⟩ := hv
  have hx := B.exec
  have hb := B.bytes
  have hr := B.returns
  have hts : ∀ w ∈ W0, w.before [.ref (b 0), .int le, .int f9, .int n9].toArray s = true := fun w h => atoms_spec (ws := wMo_learn) B.pre w (List.mem_cons_of_mem _ h)
  have hown : s.vm.findClass RMo = some m.cls := findClass_of_methodNamed B.named
  have hlocks := B.notSynchronized
  subst hsz
  have hD := hD0.self (sz := s.heap.size)
  generalize hAe : va_A (wm k b I D) s.heap.size = A at hD ⊢
  have hA : ∀ q : Nat, s.heap.size ≤ q → A q := fun q h => by rw [← hAe]; exact Or.inr h
  have hS : va_S A s.heap s.heap [] := va_S.rf
  have hl := lv_entry ([.ref (b 0), .int le, .int f9, .int n9]) (n := 6) (Nat.le_of_ble_eq_true rfl)
  rw [lg_entry_eq]
  generalize (lg_sl ([.ref (b 0), .int le, .int f9, .int n9]) ++ List.replicate (6 - (lg_sl ([.ref (b 0), .int le, .int f9, .int n9])).length) Slot.unset).toArray = ls at hl ⊢
  have hl : lv_has ls 6 [(0, .ref (b 0)), (1, .int le), (2, .int f9), (3, .int n9)] := hl
  refine lv_aload_n hx hb dMo_learn_0 rfl (lv_at hl 0 rfl) ?_
  refine lv_iconst (v := nI 0) hx hb dMo_learn_1 (by decide +kernel) ?_
  refine va_put (D := (dC, dI)) (ci := 8) (fs := mo_f b I D) (v := .int (nI 0)) (ty := .int) (C := RMo) (T := TMo) (N := 27) hx hb hts inMo tyMo tyMo_ok nmMo hown hK hP hD hS 0 rfl rfl 0 (by decide) (hts _ tw_647) (fun _ h9 => h9) rfl (by decide +kernel) rfl rfl (Nat.le_of_ble_eq_true rfl) dMo_learn_2 (fun H locs hP hD hS => ?_)
  rw [wm_p0] at hP hD
  obtain ⟨I1, eI1⟩ : ∃ z, z = ui I 0 0 (nI 0) := ⟨_, rfl⟩
  rw [← eI1] at hP hD
  refine lv_aload_n hx hb dMo_learn_5 rfl (lv_at hl 0 rfl) ?_
  refine lv_iload_n hx hb dMo_learn_6 rfl (lv_at hl 1 rfl) ?_
  refine lv_i2l (v := le.toInt64) hx hb dMo_learn_7 rfl ?_
  refine lv_ldc2 (v := 97) hx hb hown (hts _ tw_832) dMo_learn_8 ?_
  refine rw_l (y := lN 97) (by decide +kernel) ?_
  refine lv_ldc2 (v := 122) hx hb hown (hts _ tw_833) dMo_learn_11 ?_
  refine rw_l (y := lN 122) (by decide +kernel) ?_
  refine ct_i (va_runS (As := [.long le.toInt64, .long (lN 97), .long (lN 122)]) (rest := [.ref (b 0)]) ⟨hx, hb, hml, hown, hts⟩ (kMo_in l dC dI k b I1 D _ le.toInt64 (lN 97) (lN 122)) (va_cwS 3 hts (gw_S tw_738 tw_739 tw_9 tw_740) rfl rfl rfl (by decide +kernel) ⟨Nat.le_of_ble_eq_true rfl, Nat.le_of_ble_eq_true rfl⟩) ⟨ct_blind (ev := fun _ => True) (fun _ _ _ _ h => h), ct_now (ev := fun _ => True) (fun _ _ _ => trivial) hP hK hD⟩ rfl rfl hl.1 rfl (lv_room (Nat.le_of_ble_eq_true rfl)) dMo_learn_14 ⟨Nat.le_of_ble_eq_true rfl, Nat.le_of_ble_eq_true rfl⟩) hD hS hA (fun r2 u2 H locs hw2 hP hD hS => ?_)
  by_cases g14 : lN 97 ≤ le.toInt64 ∧ le.toInt64 ≤ lN 122
  · rw [if_pos g14] at hw2
    subst hw2
    refine rw_i (y := nI 1) rfl ?_
    have hL := in_ab (by decide) (by decide) g14
    refine lv_if_eq (tgt := 32) hx hb dMo_learn_17 (by decide) (fun c17 => ?_) (fun c17 => ?_)
    · have c17 : 1 = 0 := (nI_eq (a := 1) (b := 0) (by omega) (by omega)).mp (show nI 1 = nI 0 from c17)
      exact absurd c17 (by decide)
    · have c17 : ¬ 1 = 0 := fun q9 => c17 (show nI 1 = nI 0 from (nI_eq (a := 1) (b := 0) (by omega) (by omega)).mpr q9)
      refine lv_iload_n hx hb dMo_learn_20 rfl (lv_at hl 3 rfl) ?_
      refine lv_i2l (v := n9.toInt64) hx hb dMo_learn_21 rfl ?_
      refine lv_lconst (v := lN 1) hx hb dMo_learn_22 (by decide +kernel) ?_
      refine lv_ldc2 (v := 8) hx hb hown (hts _ tw_737) dMo_learn_23 ?_
      refine rw_l (y := lN 8) (by decide +kernel) ?_
      refine ct_i (va_runS (As := [.long n9.toInt64, .long (lN 1), .long (lN 8)]) (rest := [.ref (b 0)]) ⟨hx, hb, hml, hown, hts⟩ (kMo_in l dC dI k b I1 D _ n9.toInt64 (lN 1) (lN 8)) (va_cwS 3 hts (gw_S tw_738 tw_739 tw_9 tw_740) rfl rfl rfl (by decide +kernel) ⟨Nat.le_of_ble_eq_true rfl, Nat.le_of_ble_eq_true rfl⟩) ⟨ct_blind (ev := fun _ => True) (fun _ _ _ _ h => h), ct_now (ev := fun _ => True) (fun _ _ _ => trivial) hP hK hD⟩ rfl rfl hl.1 rfl (lv_room (Nat.le_of_ble_eq_true rfl)) dMo_learn_26 ⟨Nat.le_of_ble_eq_true rfl, Nat.le_of_ble_eq_true rfl⟩) hD hS hA (fun r3 u3 H locs hw3 hP hD hS => ?_)
      by_cases g26 : lN 1 ≤ n9.toInt64 ∧ n9.toInt64 ≤ lN 8
      · rw [if_pos g26] at hw3
        subst hw3
        refine rw_i (y := nI 1) rfl ?_
        obtain ⟨q, q1, q2, rfl⟩ := in_ab (by decide) (by decide) g26
        refine lv_if_ne (tgt := 36) hx hb dMo_learn_29 (by decide) (fun c29 => ?_) (fun c29 => ?_)
        · have c29 : ¬ 1 = 0 := fun q9 => c29 (show nI 1 = nI 0 from (nI_eq (a := 1) (b := 0) (by omega) (by omega)).mpr q9)
          refine lv_iconst (v := nI 0) hx hb dMo_learn_36 (by decide +kernel) ?_
          refine lv_iconst (v := nI 1) hx hb dMo_learn_37 (by decide +kernel) ?_
          refine ct_i (va_runV (As := [.int (nI 0), .int (nI 1)]) (rest := []) ⟨hx, hb, hml, hown, hts⟩ (kMo_fails0 l dC dI k b I1 D _ (nI 1) (by rw [eI1, ui_s])) (cwV 2 hts (gw_V tw_741 tw_743 sl_Mo_fails tw_9 tw_744) rfl rfl rfl (by decide +kernel) ⟨Nat.le_of_ble_eq_true rfl, Nat.le_of_ble_eq_true rfl⟩) ⟨ct_blind (ev := fun _ => True) (fun _ _ _ _ h => h), va_recv hK hP (ci := 8) (q0 := 0) rfl rfl, ct_now (ev := fun _ => True) (fun _ _ _ => trivial) hP hK hD⟩ rfl rfl hl.1 rfl (lv_room (Nat.le_of_ble_eq_true rfl)) dMo_learn_38 ⟨Nat.le_of_ble_eq_true rfl, Nat.le_of_ble_eq_true rfl⟩) hD hS hA (fun r4 u4 H locs hw4 hP hD hS => ?_)
          subst hw4
          refine lv_if_ne (tgt := 83) hx hb dMo_learn_41 (by decide) (fun c41 => ?_) (fun c41 => ?_)
          · have c41 : ¬ 0 = 0 := fun q9 => c41 (show nI 0 = nI 0 from (nI_eq (a := 0) (b := 0) (by omega) (by omega)).mpr q9)
            exact absurd (by decide) c41
          · have c41 : 0 = 0 := (nI_eq (a := 0) (b := 0) (by omega) (by omega)).mp (show nI 0 = nI 0 from c41)
            refine lv_aload_n hx hb dMo_learn_44 rfl (lv_at hl 0 rfl) ?_
            refine lv_iload_n hx hb dMo_learn_45 rfl (lv_at hl 2 rfl) ?_
            refine lv_i2l (v := f9.toInt64) hx hb dMo_learn_46 rfl ?_
            refine lv_lconst (v := lN 0) hx hb dMo_learn_47 (by decide +kernel) ?_
            refine lv_aload_n hx hb dMo_learn_48 rfl (lv_at hl 0 rfl) ?_
            refine ct_i (va_runV (As := []) (rest := [.long (lN 0), .long f9.toInt64, .ref (b 0)]) ⟨hx, hb, hml, hown, hts⟩ (kMo_frames l dC dI k b I1 D _ n (by omega) (by rw [eI1, ui_n _ _ _ (by decide)]; exact h3)) (cwV 0 hts (gw_V tw_794 tw_796 sl_Mo_frames tw_9 tw_797) rfl rfl rfl (by decide +kernel) ⟨Nat.le_of_ble_eq_true rfl, Nat.le_of_ble_eq_true rfl⟩) ⟨ct_blind (ev := fun _ => True) (fun _ _ _ _ h => h), va_recv hK hP (ci := 8) (q0 := 0) rfl rfl, ct_now (ev := fun _ => True) (fun _ _ _ => trivial) hP hK hD⟩ rfl rfl hl.1 rfl (lv_room (Nat.le_of_ble_eq_true rfl)) dMo_learn_49 ⟨Nat.le_of_ble_eq_true rfl, Nat.le_of_ble_eq_true rfl⟩) hD hS hA (fun r5 u5 H locs hw5 hP hD hS => ?_)
            rw [nf0 hn] at hw5
            subst hw5
            refine lv_i2l (v := lN 0) hx hb dMo_learn_52 (nI_l (by omega)) ?_
            refine lv_iload_n hx hb dMo_learn_53 rfl (lv_at hl 3 rfl) ?_
            refine lv_i2l (v := lN q) hx hb dMo_learn_54 (nI_l (by omega)) ?_
            refine lv_lsub hx hb dMo_learn_55 ?_
            refine ct_i (va_runS (As := [.long f9.toInt64, .long (lN 0), .long ((lN 0) - (lN q))]) (rest := [.ref (b 0)]) ⟨hx, hb, hml, hown, hts⟩ (kMo_in l dC dI k b I1 D _ f9.toInt64 (lN 0) ((lN 0) - (lN q))) (va_cwS 3 hts (gw_S tw_738 tw_739 tw_9 tw_740) rfl rfl rfl (by decide +kernel) ⟨Nat.le_of_ble_eq_true rfl, Nat.le_of_ble_eq_true rfl⟩) ⟨ct_blind (ev := fun _ => True) (fun _ _ _ _ h => h), ct_now (ev := fun _ => True) (fun _ _ _ => trivial) hP hK hD⟩ rfl rfl hl.1 rfl (lv_room (Nat.le_of_ble_eq_true rfl)) dMo_learn_56 ⟨Nat.le_of_ble_eq_true rfl, Nat.le_of_ble_eq_true rfl⟩) hD hS hA (fun r6 u6 H locs hw6 hP hD hS => ?_)
            by_cases g56 : lN 0 ≤ f9.toInt64 ∧ f9.toInt64 ≤ (lN 0) - (lN q)
            · rw [if_pos g56] at hw6
              subst hw6
              refine rw_i (y := nI 1) rfl ?_
              exact absurd g56 (lr_no q1 q2)
            · rw [if_neg g56] at hw6
              subst hw6
              refine rw_i (y := nI 0) rfl ?_
              refine lv_if_eq (tgt := 71) hx hb dMo_learn_59 (by decide) (fun c59 => ?_) (fun c59 => ?_)
              · have c59 : 0 = 0 := (nI_eq (a := 0) (b := 0) (by omega) (by omega)).mp (show nI 0 = nI 0 from c59)
                refine lv_iconst (v := nI 1) hx hb dMo_learn_71 (by decide +kernel) ?_
                refine lv_goto (tgt := 76) hx hb dMo_learn_72 (by decide) ?_
                refine lv_iconst (v := nI 2) hx hb dMo_learn_76 (by decide +kernel) ?_
                refine ct_i (va_runV (As := [.int (nI 1), .int (nI 2)]) (rest := []) ⟨hx, hb, hml, hown, hts⟩ (kMo_fails1 l dC dI k b I1 D _ 2 (by omega) (by omega) (by rw [eI1, ui_s])) (cwV 2 hts (gw_V tw_741 tw_743 sl_Mo_fails tw_9 tw_744) rfl rfl rfl (by decide +kernel) ⟨Nat.le_of_ble_eq_true rfl, Nat.le_of_ble_eq_true rfl⟩) ⟨ct_blind (ev := fun _ => True) (fun _ _ _ _ h => h), va_recv hK hP (ci := 8) (q0 := 0) rfl rfl, ct_now (ev := fun _ => True) (fun _ _ _ => trivial) hP hK hD⟩ rfl rfl hl.1 rfl (lv_room (Nat.le_of_ble_eq_true rfl)) dMo_learn_77 ⟨Nat.le_of_ble_eq_true rfl, Nat.le_of_ble_eq_true rfl⟩) hD hS hA (fun r7 u7 H locs hw7 hP hD hS => ?_)
                obtain ⟨r7e, eu7⟩ := hw7
                subst r7e
                refine lv_if_eq (tgt := 85) hx hb dMo_learn_80 (by decide) (fun c80 => ?_) (fun c80 => ?_)
                · have c80 : 1 = 0 := (nI_eq (a := 1) (b := 0) (by omega) (by omega)).mp (show nI 1 = nI 0 from c80)
                  exact absurd c80 (by decide)
                · have c80 : ¬ 1 = 0 := fun q9 => c80 (show nI 1 = nI 0 from (nI_eq (a := 1) (b := 0) (by omega) (by omega)).mpr q9)
                  refine lv_iconst (v := nI 0) hx hb dMo_learn_83 (by decide +kernel) ?_
                  exact ct_ri hx hb hr hlocks u7 (Or.inr ⟨hL, ⟨q, q1, q2, rfl⟩, by rw [eu7, ui_s]⟩) hP hD hS (Nat.le_refl _) (Nat.le_refl _) dMo_learn_84
              · have c59 : ¬ 0 = 0 := fun q9 => c59 (show nI 0 = nI 0 from (nI_eq (a := 0) (b := 0) (by omega) (by omega)).mpr q9)
                exact absurd (by decide) c59
        · have c29 : 1 = 0 := (nI_eq (a := 1) (b := 0) (by omega) (by omega)).mp (show nI 1 = nI 0 from c29)
          exact absurd c29 (by decide)
      · rw [if_neg g26] at hw3
        subst hw3
        refine rw_i (y := nI 0) rfl ?_
        refine lv_if_ne (tgt := 36) hx hb dMo_learn_29 (by decide) (fun c29 => ?_) (fun c29 => ?_)
        · have c29 : ¬ 0 = 0 := fun q9 => c29 (show nI 0 = nI 0 from (nI_eq (a := 0) (b := 0) (by omega) (by omega)).mpr q9)
          exact absurd (by decide) c29
        · have c29 : 0 = 0 := (nI_eq (a := 0) (b := 0) (by omega) (by omega)).mp (show nI 0 = nI 0 from c29)
          refine lv_iconst (v := nI 1) hx hb dMo_learn_32 (by decide +kernel) ?_
          refine lv_goto (tgt := 37) hx hb dMo_learn_33 (by decide) ?_
          refine lv_iconst (v := nI 1) hx hb dMo_learn_37 (by decide +kernel) ?_
          refine ct_i (va_runV (As := [.int (nI 1), .int (nI 1)]) (rest := []) ⟨hx, hb, hml, hown, hts⟩ (kMo_fails1 l dC dI k b I1 D _ 1 (by omega) (by omega) (by rw [eI1, ui_s])) (cwV 2 hts (gw_V tw_741 tw_743 sl_Mo_fails tw_9 tw_744) rfl rfl rfl (by decide +kernel) ⟨Nat.le_of_ble_eq_true rfl, Nat.le_of_ble_eq_true rfl⟩) ⟨ct_blind (ev := fun _ => True) (fun _ _ _ _ h => h), va_recv hK hP (ci := 8) (q0 := 0) rfl rfl, ct_now (ev := fun _ => True) (fun _ _ _ => trivial) hP hK hD⟩ rfl rfl hl.1 rfl (lv_room (Nat.le_of_ble_eq_true rfl)) dMo_learn_38 ⟨Nat.le_of_ble_eq_true rfl, Nat.le_of_ble_eq_true rfl⟩) hD hS hA (fun r8 u8 H locs hw8 hP hD hS => ?_)
          obtain ⟨r8e, eu8⟩ := hw8
          subst r8e
          refine lv_if_ne (tgt := 83) hx hb dMo_learn_41 (by decide) (fun c41 => ?_) (fun c41 => ?_)
          · have c41 : ¬ 1 = 0 := fun q9 => c41 (show nI 1 = nI 0 from (nI_eq (a := 1) (b := 0) (by omega) (by omega)).mpr q9)
            refine lv_iconst (v := nI 0) hx hb dMo_learn_83 (by decide +kernel) ?_
            exact ct_ri hx hb hr hlocks u8 (Or.inl ⟨by first | (exact fun z => g14 (in_ba (by decide) (by decide) z.1)) | (exact fun z => g26 (in_ba (by decide) (by decide) z.2)), by rw [eu8, ui_s]⟩) hP hD hS (Nat.le_refl _) (Nat.le_refl _) dMo_learn_84
          · have c41 : 1 = 0 := (nI_eq (a := 1) (b := 0) (by omega) (by omega)).mp (show nI 1 = nI 0 from c41)
            exact absurd c41 (by decide)
  · rw [if_neg g14] at hw2
    subst hw2
    refine rw_i (y := nI 0) rfl ?_
    refine lv_if_eq (tgt := 32) hx hb dMo_learn_17 (by decide) (fun c17 => ?_) (fun c17 => ?_)
    · have c17 : 0 = 0 := (nI_eq (a := 0) (b := 0) (by omega) (by omega)).mp (show nI 0 = nI 0 from c17)
      refine lv_iconst (v := nI 1) hx hb dMo_learn_32 (by decide +kernel) ?_
      refine lv_goto (tgt := 37) hx hb dMo_learn_33 (by decide) ?_
      refine lv_iconst (v := nI 1) hx hb dMo_learn_37 (by decide +kernel) ?_
      refine ct_i (va_runV (As := [.int (nI 1), .int (nI 1)]) (rest := []) ⟨hx, hb, hml, hown, hts⟩ (kMo_fails1 l dC dI k b I1 D _ 1 (by omega) (by omega) (by rw [eI1, ui_s])) (cwV 2 hts (gw_V tw_741 tw_743 sl_Mo_fails tw_9 tw_744) rfl rfl rfl (by decide +kernel) ⟨Nat.le_of_ble_eq_true rfl, Nat.le_of_ble_eq_true rfl⟩) ⟨ct_blind (ev := fun _ => True) (fun _ _ _ _ h => h), va_recv hK hP (ci := 8) (q0 := 0) rfl rfl, ct_now (ev := fun _ => True) (fun _ _ _ => trivial) hP hK hD⟩ rfl rfl hl.1 rfl (lv_room (Nat.le_of_ble_eq_true rfl)) dMo_learn_38 ⟨Nat.le_of_ble_eq_true rfl, Nat.le_of_ble_eq_true rfl⟩) hD hS hA (fun r9 u9 H locs hw9 hP hD hS => ?_)
      obtain ⟨r9e, eu9⟩ := hw9
      subst r9e
      refine lv_if_ne (tgt := 83) hx hb dMo_learn_41 (by decide) (fun c41 => ?_) (fun c41 => ?_)
      · have c41 : ¬ 1 = 0 := fun q9 => c41 (show nI 1 = nI 0 from (nI_eq (a := 1) (b := 0) (by omega) (by omega)).mpr q9)
        refine lv_iconst (v := nI 0) hx hb dMo_learn_83 (by decide +kernel) ?_
        exact ct_ri hx hb hr hlocks u9 (Or.inl ⟨by first | (exact fun z => g14 (in_ba (by decide) (by decide) z.1)) | (exact fun z => g26 (in_ba (by decide) (by decide) z.2)), by rw [eu9, ui_s]⟩) hP hD hS (Nat.le_refl _) (Nat.le_refl _) dMo_learn_84
      · have c41 : 1 = 0 := (nI_eq (a := 1) (b := 0) (by omega) (by omega)).mp (show nI 1 = nI 0 from c41)
        exact absurd c41 (by decide)
    · have c17 : ¬ 0 = 0 := fun q9 => c17 (show nI 0 = nI 0 from (nI_eq (a := 0) (b := 0) (by omega) (by omega)).mpr q9)
      exact absurd (by decide) c17
set_option maxHeartbeats 4000000 in
set_option maxRecDepth 100000 in
theorem kMo_forget0 (l : Launch) (dC : Nat → ClassId) (dI : Nat → Nat → Nat) (k : Nat → ClassId) (b : Nat → Nat) (I : Nat → Nat → Int32) (D : Nat → Nat → UInt64) (sz : Nat) (k9 : Int32) (h5 : I 0 5 = nI 0) : Met l yMo_forget wMo_forget ({ frames := 1, cells := 0, slots := 0, locals := 25 }) (va_Pc [.ref (b 0), .int k9] (ct_pre (dC, dI) (mo_ty k) (fun _ => True) (wm k b I D) sz)) (va_Qi (fun _ (u : Nat → Nat → Int32) => u 0 0 = nI 1) (fun u t => ct_at (dC, dI) (va_A (wm k b I D) sz) ((fun u => wm k b u D) u) t) (va_A (wm k b I D) sz)) 0 0 (va_A (wm k b I D) sz) := by
  refine Met.ofW (cc := cMo_forget) (maxL := 5) (ret := (some .int)) (by decide) rfl ?_
  intro p e s m args below meth c s₁ B hml hv
  obtain ⟨rfl, hsz, hP, hK, hD0, hE⟩ := hv
  have hx := B.exec
  have hb := B.bytes
  have hr := B.returns
  have hts : ∀ w ∈ W0, w.before [.ref (b 0), .int k9].toArray s = true := fun w h => atoms_spec (ws := wMo_forget) B.pre w (List.mem_cons_of_mem _ h)
  have hown : s.vm.findClass RMo = some m.cls := findClass_of_methodNamed B.named
  have hlocks := B.notSynchronized
  subst hsz
  have hD := hD0.self (sz := s.heap.size)
  generalize hAe : va_A (wm k b I D) s.heap.size = A at hD ⊢
  have hA : ∀ q : Nat, s.heap.size ≤ q → A q := fun q h => by rw [← hAe]; exact Or.inr h
  have hS : va_S A s.heap s.heap [] := va_S.rf
  have hl := lv_entry ([.ref (b 0), .int k9]) (n := 5) (Nat.le_of_ble_eq_true rfl)
  rw [lg_entry_eq]
  generalize (lg_sl ([.ref (b 0), .int k9]) ++ List.replicate (5 - (lg_sl ([.ref (b 0), .int k9])).length) Slot.unset).toArray = ls at hl ⊢
  have hl : lv_has ls 5 [(0, .ref (b 0)), (1, .int k9)] := hl
  refine lv_aload_n hx hb dMo_forget_0 rfl (lv_at hl 0 rfl) ?_
  refine lv_iconst (v := nI 0) hx hb dMo_forget_1 (by decide +kernel) ?_
  refine va_put (D := (dC, dI)) (ci := 8) (fs := mo_f b I D) (v := .int (nI 0)) (ty := .int) (C := RMo) (T := TMo) (N := 27) hx hb hts inMo tyMo tyMo_ok nmMo hown hK hP hD hS 0 rfl rfl 0 (by decide) (hts _ tw_647) (fun _ h9 => h9) rfl (by decide +kernel) rfl rfl (Nat.le_of_ble_eq_true rfl) dMo_forget_2 (fun H locs hP hD hS => ?_)
  rw [wm_p0] at hP hD
  obtain ⟨I1, eI1⟩ : ∃ z, z = ui I 0 0 (nI 0) := ⟨_, rfl⟩
  rw [← eI1] at hP hD
  refine lv_aload_n hx hb dMo_forget_5 rfl (lv_at hl 0 rfl) ?_
  refine lv_iload_n hx hb dMo_forget_6 rfl (lv_at hl 1 rfl) ?_
  refine lv_i2l (v := k9.toInt64) hx hb dMo_forget_7 rfl ?_
  refine lv_lconst (v := lN 0) hx hb dMo_forget_8 (by decide +kernel) ?_
  refine lv_aload_n hx hb dMo_forget_9 rfl (lv_at hl 0 rfl) ?_
  refine va_get (D := (dC, dI)) (ci := 8) (v := .int (I1 0 5)) (C := RMo) (T := TMo) (N := 27) hx hb hts inMo hown hK hP 0 rfl rfl 5 (by decide) (hts _ tw_652) (fun _ h9 => h9) rfl dMo_forget_10 ?_
  refine rw_i (y := I 0 5) (by rw [eI1, ui_n _ _ _ (by decide)]) ?_
  refine rw_i (y := nI 0) h5 ?_
  refine lv_iconst (v := nI 1) hx hb dMo_forget_13 (by decide +kernel) ?_
  refine lv_isub hx hb dMo_forget_14 ?_
  refine lv_i2l (v := ((nI 0) - (nI 1)).toInt64) hx hb dMo_forget_15 rfl ?_
  refine ct_i (va_runS (As := [.long k9.toInt64, .long (lN 0), .long (((nI 0) - (nI 1)).toInt64)]) (rest := [.ref (b 0)]) ⟨hx, hb, hml, hown, hts⟩ (kMo_in l dC dI k b I1 D _ k9.toInt64 (lN 0) (((nI 0) - (nI 1)).toInt64)) (va_cwS 3 hts (gw_S tw_738 tw_739 tw_9 tw_740) rfl rfl rfl (by decide +kernel) ⟨Nat.le_of_ble_eq_true rfl, Nat.le_of_ble_eq_true rfl⟩) ⟨ct_blind (ev := fun _ => True) (fun _ _ _ _ h => h), ct_now (ev := fun _ => True) (fun _ _ _ => trivial) hP hK hD⟩ rfl rfl hl.1 rfl (lv_room (Nat.le_of_ble_eq_true rfl)) dMo_forget_16 ⟨Nat.le_of_ble_eq_true rfl, Nat.le_of_ble_eq_true rfl⟩) hD hS hA (fun r2 u2 H locs hw2 hP hD hS => ?_)
  by_cases g16 : lN 0 ≤ k9.toInt64 ∧ k9.toInt64 ≤ ((nI 0) - (nI 1)).toInt64
  · rw [if_pos g16] at hw2
    subst hw2
    refine rw_i (y := nI 1) rfl ?_
    exact absurd g16 in_e
  · rw [if_neg g16] at hw2
    subst hw2
    refine rw_i (y := nI 0) rfl ?_
    refine lv_if_ne (tgt := 26) hx hb dMo_forget_19 (by decide) (fun c19 => ?_) (fun c19 => ?_)
    · have c19 : ¬ 0 = 0 := fun q9 => c19 (show nI 0 = nI 0 from (nI_eq (a := 0) (b := 0) (by omega) (by omega)).mpr q9)
      exact absurd (by decide) c19
    · have c19 : 0 = 0 := (nI_eq (a := 0) (b := 0) (by omega) (by omega)).mp (show nI 0 = nI 0 from c19)
      refine lv_iconst (v := nI 1) hx hb dMo_forget_22 (by decide +kernel) ?_
      refine lv_goto (tgt := 27) hx hb dMo_forget_23 (by decide) ?_
      refine lv_iconst (v := nI 1) hx hb dMo_forget_27 (by decide +kernel) ?_
      refine ct_i (va_runV (As := [.int (nI 1), .int (nI 1)]) (rest := []) ⟨hx, hb, hml, hown, hts⟩ (kMo_fails1 l dC dI k b I1 D _ 1 (by omega) (by omega) (by rw [eI1, ui_s])) (cwV 2 hts (gw_V tw_741 tw_743 sl_Mo_fails tw_9 tw_744) rfl rfl rfl (by decide +kernel) ⟨Nat.le_of_ble_eq_true rfl, Nat.le_of_ble_eq_true rfl⟩) ⟨ct_blind (ev := fun _ => True) (fun _ _ _ _ h => h), va_recv hK hP (ci := 8) (q0 := 0) rfl rfl, ct_now (ev := fun _ => True) (fun _ _ _ => trivial) hP hK hD⟩ rfl rfl hl.1 rfl (lv_room (Nat.le_of_ble_eq_true rfl)) dMo_forget_28 ⟨Nat.le_of_ble_eq_true rfl, Nat.le_of_ble_eq_true rfl⟩) hD hS hA (fun r3 u3 H locs hw3 hP hD hS => ?_)
      obtain ⟨r3e, eu3⟩ := hw3
      subst r3e
      refine lv_if_eq (tgt := 36) hx hb dMo_forget_31 (by decide) (fun c31 => ?_) (fun c31 => ?_)
      · have c31 : 1 = 0 := (nI_eq (a := 1) (b := 0) (by omega) (by omega)).mp (show nI 1 = nI 0 from c31)
        exact absurd c31 (by decide)
      · have c31 : ¬ 1 = 0 := fun q9 => c31 (show nI 1 = nI 0 from (nI_eq (a := 1) (b := 0) (by omega) (by omega)).mpr q9)
        refine lv_iconst (v := nI 0) hx hb dMo_forget_34 (by decide +kernel) ?_
        exact ct_ri hx hb hr hlocks u3 (by rw [eu3, ui_s]) hP hD hS (Nat.le_refl _) (Nat.le_refl _) dMo_forget_35
set_option maxHeartbeats 4000000 in
set_option maxRecDepth 100000 in
theorem kMo_warp0 (l : Launch) (dC : Nat → ClassId) (dI : Nat → Nat → Nat) (k : Nat → ClassId) (b : Nat → Nat) (I : Nat → Nat → Int32) (D : Nat → Nat → UInt64) (sz : Nat) (k9 j9 : Int32) (h5 : I 0 5 = nI 0) : Met l yMo_warp wMo_warp ({ frames := 1, cells := 0, slots := 0, locals := 25 }) (va_Pc [.ref (b 0), .int k9, .int j9] (ct_pre (dC, dI) (mo_ty k) (fun _ => True) (wm k b I D) sz)) (va_Qd (fun _ (u : Nat → Nat → Int32) => u 0 0 = nI 1) (fun u t => ct_at (dC, dI) (va_A (wm k b I D) sz) ((fun u => wm k b u D) u) t) (va_A (wm k b I D) sz)) 0 0 (va_A (wm k b I D) sz) := by
  refine Met.ofW (cc := cMo_warp) (maxL := 3) (ret := (some .double)) (by decide) rfl ?_
  intro p e s m args below meth c s₁ B hml hv
  obtain ⟨rfl, hsz, hP, hK, hD0, hE⟩ := hv
  have hx := B.exec
  have hb := B.bytes
  have hr := B.returns
  have hts : ∀ w ∈ W0, w.before [.ref (b 0), .int k9, .int j9].toArray s = true := fun w h => atoms_spec (ws := wMo_warp) B.pre w (List.mem_cons_of_mem _ h)
  have hown : s.vm.findClass RMo = some m.cls := findClass_of_methodNamed B.named
  have hlocks := B.notSynchronized
  subst hsz
  have hD := hD0.self (sz := s.heap.size)
  generalize hAe : va_A (wm k b I D) s.heap.size = A at hD ⊢
  have hA : ∀ q : Nat, s.heap.size ≤ q → A q := fun q h => by rw [← hAe]; exact Or.inr h
  have hS : va_S A s.heap s.heap [] := va_S.rf
  have hl := lv_entry ([.ref (b 0), .int k9, .int j9]) (n := 3) (Nat.le_of_ble_eq_true rfl)
  rw [lg_entry_eq]
  generalize (lg_sl ([.ref (b 0), .int k9, .int j9]) ++ List.replicate (3 - (lg_sl ([.ref (b 0), .int k9, .int j9])).length) Slot.unset).toArray = ls at hl ⊢
  have hl : lv_has ls 3 [(0, .ref (b 0)), (1, .int k9), (2, .int j9)] := hl
  refine lv_aload_n hx hb dMo_warp_0 rfl (lv_at hl 0 rfl) ?_
  refine lv_iconst (v := nI 0) hx hb dMo_warp_1 (by decide +kernel) ?_
  refine va_put (D := (dC, dI)) (ci := 8) (fs := mo_f b I D) (v := .int (nI 0)) (ty := .int) (C := RMo) (T := TMo) (N := 27) hx hb hts inMo tyMo tyMo_ok nmMo hown hK hP hD hS 0 rfl rfl 0 (by decide) (hts _ tw_647) (fun _ h9 => h9) rfl (by decide +kernel) rfl rfl (Nat.le_of_ble_eq_true rfl) dMo_warp_2 (fun H locs hP hD hS => ?_)
  rw [wm_p0] at hP hD
  obtain ⟨I1, eI1⟩ : ∃ z, z = ui I 0 0 (nI 0) := ⟨_, rfl⟩
  rw [← eI1] at hP hD
  refine lv_aload_n hx hb dMo_warp_5 rfl (lv_at hl 0 rfl) ?_
  refine lv_iload_n hx hb dMo_warp_6 rfl (lv_at hl 1 rfl) ?_
  refine lv_i2l (v := k9.toInt64) hx hb dMo_warp_7 rfl ?_
  refine lv_lconst (v := lN 0) hx hb dMo_warp_8 (by decide +kernel) ?_
  refine lv_aload_n hx hb dMo_warp_9 rfl (lv_at hl 0 rfl) ?_
  refine va_get (D := (dC, dI)) (ci := 8) (v := .int (I1 0 5)) (C := RMo) (T := TMo) (N := 27) hx hb hts inMo hown hK hP 0 rfl rfl 5 (by decide) (hts _ tw_652) (fun _ h9 => h9) rfl dMo_warp_10 ?_
  refine rw_i (y := I 0 5) (by rw [eI1, ui_n _ _ _ (by decide)]) ?_
  refine rw_i (y := nI 0) h5 ?_
  refine lv_iconst (v := nI 1) hx hb dMo_warp_13 (by decide +kernel) ?_
  refine lv_isub hx hb dMo_warp_14 ?_
  refine lv_i2l (v := ((nI 0) - (nI 1)).toInt64) hx hb dMo_warp_15 rfl ?_
  refine ct_i (va_runS (As := [.long k9.toInt64, .long (lN 0), .long (((nI 0) - (nI 1)).toInt64)]) (rest := [.ref (b 0)]) ⟨hx, hb, hml, hown, hts⟩ (kMo_in l dC dI k b I1 D _ k9.toInt64 (lN 0) (((nI 0) - (nI 1)).toInt64)) (va_cwS 3 hts (gw_S tw_738 tw_739 tw_9 tw_740) rfl rfl rfl (by decide +kernel) ⟨Nat.le_of_ble_eq_true rfl, Nat.le_of_ble_eq_true rfl⟩) ⟨ct_blind (ev := fun _ => True) (fun _ _ _ _ h => h), ct_now (ev := fun _ => True) (fun _ _ _ => trivial) hP hK hD⟩ rfl rfl hl.1 rfl (lv_room (Nat.le_of_ble_eq_true rfl)) dMo_warp_16 ⟨Nat.le_of_ble_eq_true rfl, Nat.le_of_ble_eq_true rfl⟩) hD hS hA (fun r2 u2 H locs hw2 hP hD hS => ?_)
  by_cases g16 : lN 0 ≤ k9.toInt64 ∧ k9.toInt64 ≤ ((nI 0) - (nI 1)).toInt64
  · rw [if_pos g16] at hw2
    subst hw2
    refine rw_i (y := nI 1) rfl ?_
    exact absurd g16 in_e
  · rw [if_neg g16] at hw2
    subst hw2
    refine rw_i (y := nI 0) rfl ?_
    refine lv_if_eq (tgt := 38) hx hb dMo_warp_19 (by decide) (fun c19 => ?_) (fun c19 => ?_)
    · have c19 : 0 = 0 := (nI_eq (a := 0) (b := 0) (by omega) (by omega)).mp (show nI 0 = nI 0 from c19)
      refine lv_iconst (v := nI 1) hx hb dMo_warp_38 (by decide +kernel) ?_
      refine lv_goto (tgt := 43) hx hb dMo_warp_39 (by decide) ?_
      refine lv_iconst (v := nI 1) hx hb dMo_warp_43 (by decide +kernel) ?_
      refine ct_i (va_runV (As := [.int (nI 1), .int (nI 1)]) (rest := []) ⟨hx, hb, hml, hown, hts⟩ (kMo_fails1 l dC dI k b I1 D _ 1 (by omega) (by omega) (by rw [eI1, ui_s])) (cwV 2 hts (gw_V tw_741 tw_743 sl_Mo_fails tw_9 tw_744) rfl rfl rfl (by decide +kernel) ⟨Nat.le_of_ble_eq_true rfl, Nat.le_of_ble_eq_true rfl⟩) ⟨ct_blind (ev := fun _ => True) (fun _ _ _ _ h => h), va_recv hK hP (ci := 8) (q0 := 0) rfl rfl, ct_now (ev := fun _ => True) (fun _ _ _ => trivial) hP hK hD⟩ rfl rfl hl.1 rfl (lv_room (Nat.le_of_ble_eq_true rfl)) dMo_warp_44 ⟨Nat.le_of_ble_eq_true rfl, Nat.le_of_ble_eq_true rfl⟩) hD hS hA (fun r3 u3 H locs hw3 hP hD hS => ?_)
      obtain ⟨r3e, eu3⟩ := hw3
      subst r3e
      refine lv_if_eq (tgt := 52) hx hb dMo_warp_47 (by decide) (fun c47 => ?_) (fun c47 => ?_)
      · have c47 : 1 = 0 := (nI_eq (a := 1) (b := 0) (by omega) (by omega)).mp (show nI 1 = nI 0 from c47)
        exact absurd c47 (by decide)
      · have c47 : ¬ 1 = 0 := fun q9 => c47 (show nI 1 = nI 0 from (nI_eq (a := 1) (b := 0) (by omega) (by omega)).mpr q9)
        refine lv_dconst0 hx hb dMo_warp_50 ?_
        refine rw_d (y := 0) rfl ?_
        exact ct_rd hx hb hr hlocks u3 (by rw [eu3, ui_s]) hP hD hS (Nat.le_refl _) (Nat.le_refl _) dMo_warp_51
    · have c19 : ¬ 0 = 0 := fun q9 => c19 (show nI 0 = nI 0 from (nI_eq (a := 0) (b := 0) (by omega) (by omega)).mpr q9)
      exact absurd (by decide) c19
set_option maxHeartbeats 4000000 in
set_option maxRecDepth 100000 in
theorem kMo_hear0 (l : Launch) (dC : Nat → ClassId) (dI : Nat → Nat → Nat) (k : Nat → ClassId) (b : Nat → Nat) (I : Nat → Nat → Int32) (D : Nat → Nat → UInt64) (sz : Nat) (n : Nat) (hn : n < 32) (h3 : I 0 3 = nI n) : Met l yMo_hear wMo_hear ({ frames := 1, cells := 0, slots := 0, locals := 22 }) (va_Pc [.ref (b 0)] (ct_pre (dC, dI) (mo_ty k) (fun _ => True) (wm k b I D) sz)) (va_Qi (fun _ (u : Nat → Nat → Int32) => u 0 0 = nI 1) (fun u t => ct_at (dC, dI) (va_A (wm k b I D) sz) ((fun u => wm k b u D) u) t) (va_A (wm k b I D) sz)) 0 0 (va_A (wm k b I D) sz) := by
  refine Met.ofW (cc := cMo_hear) (maxL := 7) (ret := (some .int)) (by decide) rfl ?_
  intro p e s m args below meth c s₁ B hml hv
  obtain ⟨rfl, hsz, hP, hK, hD0, hE⟩ := hv
  have hx := B.exec
  have hb := B.bytes
  have hr := B.returns
  have hts : ∀ w ∈ W0, w.before [.ref (b 0)].toArray s = true := fun w h => atoms_spec (ws := wMo_hear) B.pre w (List.mem_cons_of_mem _ h)
  have hown : s.vm.findClass RMo = some m.cls := findClass_of_methodNamed B.named
  have hlocks := B.notSynchronized
  subst hsz
  have hD := hD0.self (sz := s.heap.size)
  generalize hAe : va_A (wm k b I D) s.heap.size = A at hD ⊢
  have hA : ∀ q : Nat, s.heap.size ≤ q → A q := fun q h => by rw [← hAe]; exact Or.inr h
  have hS : va_S A s.heap s.heap [] := va_S.rf
  have hl := lv_entry ([.ref (b 0)]) (n := 7) (Nat.le_of_ble_eq_true rfl)
  rw [lg_entry_eq]
  generalize (lg_sl ([.ref (b 0)]) ++ List.replicate (7 - (lg_sl ([.ref (b 0)])).length) Slot.unset).toArray = ls at hl ⊢
  have hl : lv_has ls 7 [(0, .ref (b 0))] := hl
  refine lv_aload_n hx hb dMo_hear_0 rfl (lv_at hl 0 rfl) ?_
  refine lv_iconst (v := nI 0) hx hb dMo_hear_1 (by decide +kernel) ?_
  refine va_put (D := (dC, dI)) (ci := 8) (fs := mo_f b I D) (v := .int (nI 0)) (ty := .int) (C := RMo) (T := TMo) (N := 27) hx hb hts inMo tyMo tyMo_ok nmMo hown hK hP hD hS 0 rfl rfl 0 (by decide) (hts _ tw_647) (fun _ h9 => h9) rfl (by decide +kernel) rfl rfl (Nat.le_of_ble_eq_true rfl) dMo_hear_2 (fun H locs hP hD hS => ?_)
  rw [wm_p0] at hP hD
  obtain ⟨I1, eI1⟩ : ∃ z, z = ui I 0 0 (nI 0) := ⟨_, rfl⟩
  rw [← eI1] at hP hD
  refine lv_aload_n hx hb dMo_hear_5 rfl (lv_at hl 0 rfl) ?_
  refine ct_i (va_runV (As := []) (rest := []) ⟨hx, hb, hml, hown, hts⟩ (kMo_frames l dC dI k b I1 D _ n (by omega) (by rw [eI1, ui_n _ _ _ (by decide)]; exact h3)) (cwV 0 hts (gw_V tw_794 tw_796 sl_Mo_frames tw_9 tw_797) rfl rfl rfl (by decide +kernel) ⟨Nat.le_of_ble_eq_true rfl, Nat.le_of_ble_eq_true rfl⟩) ⟨ct_blind (ev := fun _ => True) (fun _ _ _ _ h => h), va_recv hK hP (ci := 8) (q0 := 0) rfl rfl, ct_now (ev := fun _ => True) (fun _ _ _ => trivial) hP hK hD⟩ rfl rfl hl.1 rfl (lv_room (Nat.le_of_ble_eq_true rfl)) dMo_hear_6 ⟨Nat.le_of_ble_eq_true rfl, Nat.le_of_ble_eq_true rfl⟩) hD hS hA (fun r2 u2 H locs hw2 hP hD hS => ?_)
  rw [nf0 hn] at hw2
  subst hw2
  refine lv_istore_n (lv' := [(1, .int (nI 0)), (0, .ref (b 0))]) hx hb dMo_hear_9 rfl hl (by decide) rfl (fun ls hl => ?_)
  refine lv_iconst (v := nI 0) hx hb dMo_hear_10 (by decide +kernel) ?_
  refine lv_istore_n (lv' := [(2, .int (nI 0)), (1, .int (nI 0)), (0, .ref (b 0))]) hx hb dMo_hear_11 rfl hl (by decide) rfl (fun ls hl => ?_)
  refine lv_aload_n hx hb dMo_hear_12 rfl (lv_at hl 2 rfl) ?_
  refine lv_iload_n hx hb dMo_hear_13 rfl (lv_at hl 1 rfl) ?_
  refine lv_if_ne (tgt := 21) hx hb dMo_hear_14 (by decide) (fun c14 => ?_) (fun c14 => ?_)
  · have c14 : ¬ 0 = 0 := fun q9 => c14 (show nI 0 = nI 0 from (nI_eq (a := 0) (b := 0) (by omega) (by omega)).mpr q9)
    exact absurd (by decide) c14
  · have c14 : 0 = 0 := (nI_eq (a := 0) (b := 0) (by omega) (by omega)).mp (show nI 0 = nI 0 from c14)
    refine lv_iconst (v := nI 1) hx hb dMo_hear_17 (by decide +kernel) ?_
    refine lv_goto (tgt := 22) hx hb dMo_hear_18 (by decide) ?_
    refine lv_iconst (v := nI 1) hx hb dMo_hear_22 (by decide +kernel) ?_
    refine ct_i (va_runV (As := [.int (nI 1), .int (nI 1)]) (rest := []) ⟨hx, hb, hml, hown, hts⟩ (kMo_fails1 l dC dI k b I1 D _ 1 (by omega) (by omega) (by rw [eI1, ui_s])) (cwV 2 hts (gw_V tw_741 tw_743 sl_Mo_fails tw_9 tw_744) rfl rfl rfl (by decide +kernel) ⟨Nat.le_of_ble_eq_true rfl, Nat.le_of_ble_eq_true rfl⟩) ⟨ct_blind (ev := fun _ => True) (fun _ _ _ _ h => h), va_recv hK hP (ci := 8) (q0 := 0) rfl rfl, ct_now (ev := fun _ => True) (fun _ _ _ => trivial) hP hK hD⟩ rfl rfl hl.1 rfl (lv_room (Nat.le_of_ble_eq_true rfl)) dMo_hear_23 ⟨Nat.le_of_ble_eq_true rfl, Nat.le_of_ble_eq_true rfl⟩) hD hS hA (fun r3 u3 H locs hw3 hP hD hS => ?_)
    obtain ⟨r3e, eu3⟩ := hw3
    subst r3e
    refine lv_if_eq (tgt := 31) hx hb dMo_hear_26 (by decide) (fun c26 => ?_) (fun c26 => ?_)
    · have c26 : 1 = 0 := (nI_eq (a := 1) (b := 0) (by omega) (by omega)).mp (show nI 1 = nI 0 from c26)
      exact absurd c26 (by decide)
    · have c26 : ¬ 1 = 0 := fun q9 => c26 (show nI 1 = nI 0 from (nI_eq (a := 1) (b := 0) (by omega) (by omega)).mpr q9)
      refine lv_iconst (v := nI 0) hx hb dMo_hear_29 (by decide +kernel) ?_
      exact ct_ri hx hb hr hlocks u3 (by rw [eu3, ui_s]) hP hD hS (Nat.le_refl _) (Nat.le_refl _) dMo_hear_30
