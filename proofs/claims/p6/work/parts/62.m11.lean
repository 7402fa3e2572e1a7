set_option maxHeartbeats 4000000 in
set_option maxRecDepth 100000 in
theorem kMo_heard2 (l : Launch) (dC : Nat → ClassId) (dI : Nat → Nat → Nat) (k : Nat → ClassId) (b : Nat → Nat) (I : Nat → Nat → Int32) (D : Nat → Nat → UInt64) (sz : Nat) (t bits : Nat) (oc : Nat → Nat) (ht : t < 400) (ht2 : bits ≠ 8 → t + 2 ≤ 400) (hbt : bits < 65536) (ho : ∀ j, j < 400 → I 1 j = nI (oc j) ∧ oc j < 256) : Met l yMo_heard wMo_heard ({ frames := 1, cells := 0, slots := 0, locals := 25 }) (va_Pc [.ref (b 0), .int (nI t), .int (nI bits)] (ct_pre (dC, dI) (mo_ty k) (fun _ => True) (wm k b I D) sz)) (va_Qd (fun r (_ : Unit) => r = fi_ch oc bits t) (fun u t => ct_at (dC, dI) (va_A (wm k b I D) sz) ((fun _ => wm k b I D) u) t) (va_A (wm k b I D) sz)) 0 0 (va_A (wm k b I D) sz) := by
  refine Met.ofW (cc := cMo_heard) (maxL := 4) (ret := (some .double)) (by decide) rfl ?_
  intro p e s m args below meth c s₁ B hml hv
  obtain ⟨rfl, hsz, hP, hK, hD0, hE⟩ := hv
  have hx := B.exec
  have hb := B.bytes
  have hr := B.returns
  have hts : ∀ w ∈ W0, w.before [.ref (b 0), .int (nI t), .int (nI bits)].toArray s = true := fun w h => atoms_spec (ws := wMo_heard) B.pre w (List.mem_cons_of_mem _ h)
  have hown : s.vm.findClass RMo = some m.cls := findClass_of_methodNamed B.named
  have hlocks := B.notSynchronized
  subst hsz
  have hD := hD0.self (sz := s.heap.size)
  generalize hAe : va_A (wm k b I D) s.heap.size = A at hD ⊢
  have hA : ∀ q : Nat, s.heap.size ≤ q → A q := fun q h => by rw [← hAe]; exact Or.inr h
  have hS : va_S A s.heap s.heap [] := va_S.rf
  have hl := lv_entry ([.ref (b 0), .int (nI t), .int (nI bits)]) (n := 4) (Nat.le_of_ble_eq_true rfl)
  rw [lg_entry_eq]
  generalize (lg_sl ([.ref (b 0), .int (nI t), .int (nI bits)]) ++ List.replicate (4 - (lg_sl ([.ref (b 0), .int (nI t), .int (nI bits)])).length) Slot.unset).toArray = ls at hl ⊢
  have hl : lv_has ls 4 [(0, .ref (b 0)), (1, .int (nI t)), (2, .int (nI bits))] := hl
  refine lv_iload_n hx hb dMo_heard_0 rfl (lv_at hl 2 rfl) ?_
  refine lv_bipush (v := nI 8) hx hb dMo_heard_1 (by decide +kernel) ?_
  refine lv_icmp_ne (tgt := 23) hx hb dMo_heard_3 (by decide) (fun c3 => ?_) (fun c3 => ?_)
  · have c3 : ¬ bits = 8 := fun q9 => c3 (show nI bits = nI 8 from (nI_eq (a := bits) (b := 8) (by omega) (by omega)).mpr q9)
    refine lv_aload_n hx hb dMo_heard_23 rfl (lv_at hl 0 rfl) ?_
    refine lv_iload_n hx hb dMo_heard_24 rfl (lv_at hl 1 rfl) ?_
    refine lv_iconst (v := nI 2) hx hb dMo_heard_25 (by decide +kernel) ?_
    refine ct_l (va_runV (As := [.int (nI t), .int (nI 2)]) (rest := []) ⟨hx, hb, hml, hown, hts⟩ (kMo_number l dC dI k b I D _ t 2 oc (by omega) (by omega) (ht2 c3) ho) (cwV 2 hts (gw_V tw_750 tw_752 sl_Mo_number tw_9 tw_753) rfl rfl rfl (by decide +kernel) ⟨Nat.le_of_ble_eq_true rfl, Nat.le_of_ble_eq_true rfl⟩) ⟨ct_blind (ev := fun _ => True) (fun _ _ _ _ h => h), va_recv hK hP (ci := 8) (q0 := 0) rfl rfl, ct_now (ev := fun _ => True) (fun _ _ _ => trivial) hP hK hD⟩ rfl rfl hl.1 rfl (lv_room (Nat.le_of_ble_eq_true rfl)) dMo_heard_26 ⟨Nat.le_of_ble_eq_true rfl, Nat.le_of_ble_eq_true rfl⟩) hD hS hA (fun r1 u1 H locs hw1 hP hD hS => ?_)
    subst hw1
    refine lv_l2i (v := nI (nu oc t 2)) hx hb dMo_heard_29 (lN_i _) ?_
    refine lv_i2s (v := (nI (nu oc t 2)).toInt16.toInt32) hx hb dMo_heard_30 rfl ?_
    refine rw_i (y := fi_ci oc bits t) ((if_neg c3).symm) ?_
    refine lv_istore_n (lv' := [(3, .int (fi_ci oc bits t)), (0, .ref (b 0)), (1, .int (nI t)), (2, .int (nI bits))]) hx hb dMo_heard_31 rfl hl (by decide) rfl (fun ls hl => ?_)
    refine lv_iload_n hx hb dMo_heard_32 rfl (lv_at hl 0 rfl) ?_
    refine lv_i2d hx hb dMo_heard_33 ?_
    refine lv_ldc2d (v := 4674736413210574848) hx hb hown (hts _ tw_766) dMo_heard_34 ?_
    refine lv_ddiv hx hb dMo_heard_37 (fb_n (fi_ch_b oc bits t) (by decide)) ?_
    refine rw_d (y := fi_ch oc bits t) rfl ?_
    exact ct_rd hx hb hr hlocks () rfl hP hD hS (Nat.le_refl _) (Nat.le_refl _) dMo_heard_38
  · have c3 : bits = 8 := (nI_eq (a := bits) (b := 8) (by omega) (by omega)).mp (show nI bits = nI 8 from c3)
    refine lv_aload_n hx hb dMo_heard_6 rfl (lv_at hl 0 rfl) ?_
    refine va_get (D := (dC, dI)) (ci := 8) (v := .ref (b 1)) (C := RMo) (T := TMo) (N := 27) hx hb hts inMo hown hK hP 0 rfl rfl 12 (by decide) (hts _ tw_659) (fun _ h9 => h9) rfl dMo_heard_7 ?_
    refine lv_iload_n hx hb dMo_heard_10 rfl (lv_at hl 1 rfl) ?_
    refine rw_ald_i hx hb hK hP 1 0 rfl rfl (by omega) (by decide) dMo_heard_11 ?_
    refine rw_i (y := nI (oc t)) ((ho _ (by omega)).1) ?_
    refine lv_sipush (v := nI 128) hx hb dMo_heard_12 (by decide +kernel) ?_
    refine lv_isub hx hb dMo_heard_15 ?_
    refine lv_sipush (v := nI 256) hx hb dMo_heard_16 (by decide +kernel) ?_
    refine lv_imul hx hb dMo_heard_19 ?_
    refine lv_goto (tgt := 31) hx hb dMo_heard_20 (by decide) ?_
    refine rw_i (y := fi_ci oc bits t) ((if_pos c3).symm) ?_
    refine lv_istore_n (lv' := [(3, .int (fi_ci oc bits t)), (0, .ref (b 0)), (1, .int (nI t)), (2, .int (nI bits))]) hx hb dMo_heard_31 rfl hl (by decide) rfl (fun ls hl => ?_)
    refine lv_iload_n hx hb dMo_heard_32 rfl (lv_at hl 0 rfl) ?_
    refine lv_i2d hx hb dMo_heard_33 ?_
    refine lv_ldc2d (v := 4674736413210574848) hx hb hown (hts _ tw_766) dMo_heard_34 ?_
    refine lv_ddiv hx hb dMo_heard_37 (fb_n (fi_ch_b oc bits t) (by decide)) ?_
    refine rw_d (y := fi_ch oc bits t) rfl ?_
    exact ct_rd hx hb hr hlocks () rfl hP hD hS (Nat.le_refl _) (Nat.le_refl _) dMo_heard_38
set_option maxHeartbeats 4000000 in
set_option maxRecDepth 100000 in
theorem kMo_read (l : Launch) (dC : Nat → ClassId) (dI : Nat → Nat → Nat) (k : Nat → ClassId) (b : Nat → Nat) (I : Nat → Nat → Int32) (D : Nat → Nat → UInt64) (sz : Nat) (n : Nat) (oc : Nat → Nat) (hn : n ≤ 400) (h1 : I 0 1 = nI n) (ho : ∀ j, j < 400 → I 1 j = nI (oc j) ∧ oc j < 256) : Met l yMo_read wMo_read ({ frames := 2, cells := 0, slots := 0, locals := 53 }) (va_Pc [.ref (b 0)] (ct_pre (dC, dI) (mo_ty k) (fun _ => True) (wm k b I D) sz)) (va_Qi (fun r (u : (Nat → Nat → Int32) × (Nat → UInt64)) => ((¬ fi_ok oc n) ∧ ∃ j, j ≤ 44 ∧ u = (ui (ui (ui (ui I 0 0 (nI 0)) 0 2 (nI j)) 0 1 (nI 0)) 0 0 (nI 1), D 1)) ∨ (fi_ok oc n ∧ 320 < fi_n oc n ∧ u = (ui (ui (ui (ui I 0 0 (nI 0)) 0 2 (-1)) 0 1 (nI 0)) 0 0 (nI 2), D 1)) ∨ (fi_ok oc n ∧ fi_n oc n ≤ 320 ∧ r = nI (fi_n oc n) ∧ u.1 = ui (ui (ui (ui (ui (ui I 0 0 (nI 0)) 0 2 (-1)) 0 4 (nI (nu oc 24 4))) 0 3 (nI (fi_n oc n))) 0 6 (nI 0)) 0 1 (nI 0) ∧ ∀ i, i < fi_n oc n → u.2 i = fi_sa oc i)) (fun u t => ct_at (dC, dI) (va_A (wm k b I D) sz) ((fun u => wm k b u.1 (us D 1 u.2)) u) t) (va_A (wm k b I D) sz)) 0 0 (va_A (wm k b I D) sz) := by
  refine Met.ofW (cc := cMo_read) (maxL := 8) (ret := (some .int)) (by decide) rfl ?_
  intro p e s m args below meth c s₁ B hml hv
  obtain ⟨rfl, hsz, hP, hK, hD0, hE⟩ := hv
  have hx := B.exec
  have hb := B.bytes
  have hr := B.returns
  have hts : ∀ w ∈ W0, w.before [.ref (b 0)].toArray s = true := fun w h => atoms_spec (ws := wMo_read) B.pre w (List.mem_cons_of_mem _ h)
  have hown : s.vm.findClass RMo = some m.cls := findClass_of_methodNamed B.named
  have hlocks := B.notSynchronized
  subst hsz
  have hD := hD0.self (sz := s.heap.size)
  generalize hAe : va_A (wm k b I D) s.heap.size = A at hD ⊢
  have hA : ∀ q : Nat, s.heap.size ≤ q → A q := fun q h => by rw [← hAe]; exact Or.inr h
  have hS : va_S A s.heap s.heap [] := va_S.rf
  have hl := lv_entry ([.ref (b 0)]) (n := 8) (Nat.le_of_ble_eq_true rfl)
  rw [lg_entry_eq]
  generalize (lg_sl ([.ref (b 0)]) ++ List.replicate (8 - (lg_sl ([.ref (b 0)])).length) Slot.unset).toArray = ls at hl ⊢
  have hl : lv_has ls 8 [(0, .ref (b 0))] := hl
  refine lp_q (fun Q9 hQ9 => ?_)
  refine lv_aload_n hx hb dMo_read_0 rfl (lv_at hl 0 rfl) ?_
  refine lv_iconst (v := nI 0) hx hb dMo_read_1 (by decide +kernel) ?_
  refine va_put (D := (dC, dI)) (ci := 8) (fs := mo_f b I D) (v := .int (nI 0)) (ty := .int) (C := RMo) (T := TMo) (N := 27) hx hb hts inMo tyMo tyMo_ok nmMo hown hK hP hD hS 0 rfl rfl 0 (by decide) (hts _ tw_647) (fun _ h9 => h9) rfl (by decide +kernel) rfl rfl (Nat.le_of_ble_eq_true rfl) dMo_read_2 (fun H locs hP hD hS => ?_)
  rw [wm_p0] at hP hD
  obtain ⟨I1, eI1⟩ : ∃ z, z = ui I 0 0 (nI 0) := ⟨_, rfl⟩
  rw [← eI1] at hP hD
  refine lv_aload_n hx hb dMo_read_5 rfl (lv_at hl 0 rfl) ?_
  refine lv_aload_n hx hb dMo_read_6 rfl (lv_at hl 0 rfl) ?_
  refine ct_i (va_runV (As := []) (rest := [.ref (b 0)]) ⟨hx, hb, hml, hown, hts⟩ (kMo_wrong l dC dI k b I1 D _ n oc hn (by rw [eI1, ui_n _ _ _ (by decide)]; exact h1) (fun j hj => by rw [eI1, ui_o _ _ _ (by decide)]; exact ho j hj)) (cwV 0 hts (gw_V tw_746 tw_748 sl_Mo_wrong tw_9 tw_749) rfl rfl rfl (by decide +kernel) ⟨Nat.le_of_ble_eq_true rfl, Nat.le_of_ble_eq_true rfl⟩) ⟨ct_blind (ev := fun _ => True) (fun _ _ _ _ h => h), va_recv hK hP (ci := 8) (q0 := 0) rfl rfl, ct_now (ev := fun _ => True) (fun _ _ _ => trivial) hP hK hD⟩ rfl rfl hl.1 rfl (lv_room (Nat.le_of_ble_eq_true rfl)) dMo_read_7 ⟨Nat.le_of_ble_eq_true rfl, Nat.le_of_ble_eq_true rfl⟩) hD hS hA (fun r2 u2 H locs hw2 hP hD hS => ?_)
  rcases hw2 with ⟨hok, rfl⟩ | ⟨hok, jw, hjw, rfl⟩
  · skip
    refine va_put (D := (dC, dI)) (ci := 8) (fs := mo_f b I1 D) (v := .int (-1)) (ty := .int) (C := RMo) (T := TMo) (N := 27) hx hb hts inMo tyMo tyMo_ok nmMo hown hK hP hD hS 0 rfl rfl 2 (by decide) (hts _ tw_649) (fun _ h9 => h9) rfl (by decide +kernel) rfl rfl (Nat.le_of_ble_eq_true rfl) dMo_read_10 (fun H locs hP hD hS => ?_)
    rw [wm_p2] at hP hD
    obtain ⟨I3, eI3⟩ : ∃ z, z = ui I1 0 2 (-1) := ⟨_, rfl⟩
    rw [← eI3] at hP hD
    refine lv_aload_n hx hb dMo_read_13 rfl (lv_at hl 0 rfl) ?_
    refine va_get (D := (dC, dI)) (ci := 8) (v := .int (I3 0 2)) (C := RMo) (T := TMo) (N := 27) hx hb hts inMo hown hK hP 0 rfl rfl 2 (by decide) (hts _ tw_649) (fun _ h9 => h9) rfl dMo_read_14 ?_
    refine rw_i (y := (-1)) (by rw [eI3, ui_s]) ?_
    refine lv_if_lt (tgt := 34) hx hb dMo_read_17 (by decide) (fun c17 => ?_) (fun c17 => ?_)
    · obtain ⟨k0, k1, k2, k3, k4, k5⟩ := fi_k hok
      obtain ⟨g1, g2⟩ := fi_e hok
      have gn := fi_n_le hok hn
      refine lv_aload_n hx hb dMo_read_34 rfl (lv_at hl 0 rfl) ?_
      refine lv_bipush (v := nI 32) hx hb dMo_read_35 (by decide +kernel) ?_
      refine lv_iconst (v := nI 2) hx hb dMo_read_37 (by decide +kernel) ?_
      refine ct_l (va_runV (As := [.int (nI 32), .int (nI 2)]) (rest := []) ⟨hx, hb, hml, hown, hts⟩ (kMo_number l dC dI k b I3 D _ 32 2 oc (by decide) (by decide) (by decide) (fun j hj => by rw [eI3, ui_o _ _ _ (by decide), eI1, ui_o _ _ _ (by decide)]; exact ho j hj)) (cwV 2 hts (gw_V tw_750 tw_752 sl_Mo_number tw_9 tw_753) rfl rfl rfl (by decide +kernel) ⟨Nat.le_of_ble_eq_true rfl, Nat.le_of_ble_eq_true rfl⟩) ⟨ct_blind (ev := fun _ => True) (fun _ _ _ _ h => h), va_recv hK hP (ci := 8) (q0 := 0) rfl rfl, ct_now (ev := fun _ => True) (fun _ _ _ => trivial) hP hK hD⟩ rfl rfl hl.1 rfl (lv_room (Nat.le_of_ble_eq_true rfl)) dMo_read_38 ⟨Nat.le_of_ble_eq_true rfl, Nat.le_of_ble_eq_true rfl⟩) hD hS hA (fun r4 u4 H locs hw4 hP hD hS => ?_)
      subst hw4
      refine lv_l2i (v := nI (nu oc 32 2)) hx hb dMo_read_41 (lN_i _) ?_
      refine lv_istore_n (lv' := [(1, .int (nI (nu oc 32 2))), (0, .ref (b 0))]) hx hb dMo_read_42 rfl hl (by decide) rfl (fun ls hl => ?_)
      refine lv_aload_n hx hb dMo_read_43 rfl (lv_at hl 1 rfl) ?_
      refine lv_bipush (v := nI 22) hx hb dMo_read_44 (by decide +kernel) ?_
      refine lv_iconst (v := nI 2) hx hb dMo_read_46 (by decide +kernel) ?_
      refine ct_l (va_runV (As := [.int (nI 22), .int (nI 2)]) (rest := []) ⟨hx, hb, hml, hown, hts⟩ (kMo_number l dC dI k b I3 D _ 22 2 oc (by decide) (by decide) (by decide) (fun j hj => by rw [eI3, ui_o _ _ _ (by decide), eI1, ui_o _ _ _ (by decide)]; exact ho j hj)) (cwV 2 hts (gw_V tw_750 tw_752 sl_Mo_number tw_9 tw_753) rfl rfl rfl (by decide +kernel) ⟨Nat.le_of_ble_eq_true rfl, Nat.le_of_ble_eq_true rfl⟩) ⟨ct_blind (ev := fun _ => True) (fun _ _ _ _ h => h), va_recv hK hP (ci := 8) (q0 := 0) rfl rfl, ct_now (ev := fun _ => True) (fun _ _ _ => trivial) hP hK hD⟩ rfl rfl hl.1 rfl (lv_room (Nat.le_of_ble_eq_true rfl)) dMo_read_47 ⟨Nat.le_of_ble_eq_true rfl, Nat.le_of_ble_eq_true rfl⟩) hD hS hA (fun r5 u5 H locs hw5 hP hD hS => ?_)
      subst hw5
      refine lv_l2i (v := nI (nu oc 22 2)) hx hb dMo_read_50 (lN_i _) ?_
      refine lv_istore_n (lv' := [(2, .int (nI (nu oc 22 2))), (1, .int (nI (nu oc 32 2))), (0, .ref (b 0))]) hx hb dMo_read_51 rfl hl (by decide) rfl (fun ls hl => ?_)
      refine lv_aload_n hx hb dMo_read_52 rfl (lv_at hl 2 rfl) ?_
      refine lv_bipush (v := nI 34) hx hb dMo_read_53 (by decide +kernel) ?_
      refine lv_iconst (v := nI 2) hx hb dMo_read_55 (by decide +kernel) ?_
      refine ct_l (va_runV (As := [.int (nI 34), .int (nI 2)]) (rest := []) ⟨hx, hb, hml, hown, hts⟩ (kMo_number l dC dI k b I3 D _ 34 2 oc (by decide) (by decide) (by decide) (fun j hj => by rw [eI3, ui_o _ _ _ (by decide), eI1, ui_o _ _ _ (by decide)]; exact ho j hj)) (cwV 2 hts (gw_V tw_750 tw_752 sl_Mo_number tw_9 tw_753) rfl rfl rfl (by decide +kernel) ⟨Nat.le_of_ble_eq_true rfl, Nat.le_of_ble_eq_true rfl⟩) ⟨ct_blind (ev := fun _ => True) (fun _ _ _ _ h => h), va_recv hK hP (ci := 8) (q0 := 0) rfl rfl, ct_now (ev := fun _ => True) (fun _ _ _ => trivial) hP hK hD⟩ rfl rfl hl.1 rfl (lv_room (Nat.le_of_ble_eq_true rfl)) dMo_read_56 ⟨Nat.le_of_ble_eq_true rfl, Nat.le_of_ble_eq_true rfl⟩) hD hS hA (fun r6 u6 H locs hw6 hP hD hS => ?_)
      subst hw6
      refine lv_l2i (v := nI (nu oc 34 2)) hx hb dMo_read_59 (lN_i _) ?_
      refine lv_istore_n (lv' := [(3, .int (nI (nu oc 34 2))), (2, .int (nI (nu oc 22 2))), (1, .int (nI (nu oc 32 2))), (0, .ref (b 0))]) hx hb dMo_read_60 rfl hl (by decide) rfl (fun ls hl => ?_)
      refine lv_aload_n hx hb dMo_read_61 rfl (lv_at hl 3 rfl) ?_
      refine va_get (D := (dC, dI)) (ci := 8) (v := .int (I3 0 1)) (C := RMo) (T := TMo) (N := 27) hx hb hts inMo hown hK hP 0 rfl rfl 1 (by decide) (hts _ tw_648) (fun _ h9 => h9) rfl dMo_read_62 ?_
      refine rw_i (y := I 0 1) (by rw [eI3, ui_n _ _ _ (by decide), eI1, ui_n _ _ _ (by decide)]) ?_
      refine rw_i (y := nI n) h1 ?_
      refine lv_bipush (v := nI 44) hx hb dMo_read_65 (by decide +kernel) ?_
      refine lv_isub hx hb dMo_read_67 ?_
      refine rw_i (y := nI (n - 44)) (pk_sub (by omega)) ?_
      refine lv_iload_n hx hb dMo_read_68 rfl (lv_at hl 2 rfl) ?_
      refine lv_idiv hx hb dMo_read_69 (nI_ne0 (by omega) (by omega)) ?_
      refine rw_i (y := nI (fi_n oc n)) (pk_div (by omega) (by omega) (by omega)) ?_
      refine lv_istore (lv' := [(4, .int (nI (fi_n oc n))), (3, .int (nI (nu oc 34 2))), (2, .int (nI (nu oc 22 2))), (1, .int (nI (nu oc 32 2))), (0, .ref (b 0))]) hx hb dMo_read_70 hl (by decide) rfl (fun ls hl => ?_)
      refine lv_iload hx hb dMo_read_72 (lv_at hl 0 rfl) ?_
      refine lv_sipush (v := nI 320) hx hb dMo_read_74 (by decide +kernel) ?_
      refine lv_icmp_le (tgt := 84) hx hb dMo_read_77 (by decide) (fun c77 => ?_) (fun c77 => ?_)
      · have c77 : (fi_n oc n) ≤ 320 := (nI_leI (a := (fi_n oc n)) (b := 320) (by omega) (by omega)).mp (show nI (fi_n oc n) ≤ nI 320 from c77)
        refine lv_iconst (v := nI 0) hx hb dMo_read_84 (by decide +kernel) ?_
        refine lv_istore (lv' := [(5, .int (nI 0)), (4, .int (nI (fi_n oc n))), (3, .int (nI (nu oc 34 2))), (2, .int (nI (nu oc 22 2))), (1, .int (nI (nu oc 32 2))), (0, .ref (b 0))]) hx hb dMo_read_85 hl (by decide) rfl (fun ls hl => ?_)
        refine lv_iload hx hb dMo_read_87 (lv_at hl 0 rfl) ?_
        refine lv_if_ne (tgt := 186) hx hb dMo_read_89 (by decide) (fun c89 => ?_) (fun c89 => ?_)
        · have c89 : ¬ 0 = 0 := fun q9 => c89 (show nI 0 = nI 0 from (nI_eq (a := 0) (b := 0) (by omega) (by omega)).mpr q9)
          exact absurd (by decide) c89
        · have c89 : 0 = 0 := (nI_eq (a := 0) (b := 0) (by omega) (by omega)).mp (show nI 0 = nI 0 from c89)
          refine lv_aload_n hx hb dMo_read_92 rfl (lv_at hl 5 rfl) ?_
          refine lv_aload_n hx hb dMo_read_93 rfl (lv_at hl 5 rfl) ?_
          refine lv_bipush (v := nI 24) hx hb dMo_read_94 (by decide +kernel) ?_
          refine lv_iconst (v := nI 4) hx hb dMo_read_96 (by decide +kernel) ?_
          refine ct_l (va_runV (As := [.int (nI 24), .int (nI 4)]) (rest := [.ref (b 0)]) ⟨hx, hb, hml, hown, hts⟩ (kMo_number l dC dI k b I3 D _ 24 4 oc (by decide) (by decide) (by decide) (fun j hj => by rw [eI3, ui_o _ _ _ (by decide), eI1, ui_o _ _ _ (by decide)]; exact ho j hj)) (cwV 2 hts (gw_V tw_750 tw_752 sl_Mo_number tw_9 tw_753) rfl rfl rfl (by decide +kernel) ⟨Nat.le_of_ble_eq_true rfl, Nat.le_of_ble_eq_true rfl⟩) ⟨ct_blind (ev := fun _ => True) (fun _ _ _ _ h => h), va_recv hK hP (ci := 8) (q0 := 0) rfl rfl, ct_now (ev := fun _ => True) (fun _ _ _ => trivial) hP hK hD⟩ rfl rfl hl.1 rfl (lv_room (Nat.le_of_ble_eq_true rfl)) dMo_read_97 ⟨Nat.le_of_ble_eq_true rfl, Nat.le_of_ble_eq_true rfl⟩) hD hS hA (fun r7 u7 H locs hw7 hP hD hS => ?_)
          subst hw7
          refine lv_l2i (v := nI (nu oc 24 4)) hx hb dMo_read_100 (lN_i _) ?_
          refine va_put (D := (dC, dI)) (ci := 8) (fs := mo_f b I3 D) (v := .int (nI (nu oc 24 4))) (ty := .int) (C := RMo) (T := TMo) (N := 27) hx hb hts inMo tyMo tyMo_ok nmMo hown hK hP hD hS 0 rfl rfl 4 (by decide) (hts _ tw_651) (fun _ h9 => h9) rfl (by decide +kernel) rfl rfl (Nat.le_of_ble_eq_true rfl) dMo_read_101 (fun H locs hP hD hS => ?_)
          rw [wm_p4] at hP hD
          obtain ⟨I8, eI8⟩ : ∃ z, z = ui I3 0 4 (nI (nu oc 24 4)) := ⟨_, rfl⟩
          rw [← eI8] at hP hD
          refine lv_iconst (v := nI 0) hx hb dMo_read_104 (by decide +kernel) ?_
          refine lv_istore (lv' := [(6, .int (nI 0)), (5, .int (nI 0)), (4, .int (nI (fi_n oc n))), (3, .int (nI (nu oc 34 2))), (2, .int (nI (nu oc 22 2))), (1, .int (nI (nu oc 32 2))), (0, .ref (b 0))]) hx hb dMo_read_105 hl (by decide) rfl (fun ls hl => ?_)
          rw [← us_id D 1] at hP hD
          have L107 : ∀ (n107 : Nat) (i : Nat) (v : Nat → UInt64), fi_n oc n - i < n107 → i ≤ fi_n oc n → (∀ q, q < i → v q = fi_sa oc q) → ∀ (H : Heap) (locs : List Loc), va_P (dC, dI) vwCl (wm k b I8 (us D 1 v)) H → va_D A (wm k b I8 (us D 1 v)) → va_S A s.heap H locs → ∀ ls : Array Slot, lv_has ls 8 [(0, .ref (b 0)), (1, .int (nI (nu oc 32 2))), (2, .int (nI (nu oc 22 2))), (3, .int (nI (nu oc 34 2))), (4, .int (nI (fi_n oc n))), (5, .int (nI 0)), (6, .int (nI i))] → W p l e (headSpec wMo_read ({ frames := 2, cells := 0, slots := 0, locals := 53 })).room s m [.ref (b 0)].toArray below meth c H locs 0 0 Q9 (F0 m 107 ls []) := by
            intro n107
            induction n107 with
            | zero => intro i v hm; exact absurd hm (Nat.not_lt_zero _)
            | succ n107 ih107 =>
              intro i v hm107 hi hv H locs hP hD hS ls hl
              refine lv_iload hx hb dMo_read_107 (lv_at hl 6 rfl) ?_
              refine lv_iload hx hb dMo_read_109 (lv_at hl 4 rfl) ?_
              refine lv_icmp_ge (tgt := 175) hx hb dMo_read_111 (by decide) (fun c111 => ?_) (fun c111 => ?_)
              · have c111 : (fi_n oc n) ≤ i := (nI_leI (a := (fi_n oc n)) (b := i) (by omega) (by omega)).mp (show nI (fi_n oc n) ≤ nI i from c111)
                refine lv_aload_n hx hb dMo_read_175 rfl (lv_at hl 0 rfl) ?_
                refine lv_iload hx hb dMo_read_176 (lv_at hl 4 rfl) ?_
                refine va_put (D := (dC, dI)) (ci := 8) (fs := mo_f b I8 (us D 1 v)) (v := .int (nI (fi_n oc n))) (ty := .int) (C := RMo) (T := TMo) (N := 27) hx hb hts inMo tyMo tyMo_ok nmMo hown hK hP hD hS 0 rfl rfl 3 (by decide) (hts _ tw_650) (fun _ h9 => h9) rfl (by decide +kernel) rfl rfl (Nat.le_of_ble_eq_true rfl) dMo_read_178 (fun H locs hP hD hS => ?_)
                rw [wm_p3] at hP hD
                obtain ⟨I9, eI9⟩ : ∃ z, z = ui I8 0 3 (nI (fi_n oc n)) := ⟨_, rfl⟩
                rw [← eI9] at hP hD
                refine lv_aload_n hx hb dMo_read_181 rfl (lv_at hl 0 rfl) ?_
                refine lv_iconst (v := nI 0) hx hb dMo_read_182 (by decide +kernel) ?_
                refine va_put (D := (dC, dI)) (ci := 8) (fs := mo_f b I9 (us D 1 v)) (v := .int (nI 0)) (ty := .int) (C := RMo) (T := TMo) (N := 27) hx hb hts inMo tyMo tyMo_ok nmMo hown hK hP hD hS 0 rfl rfl 6 (by decide) (hts _ tw_653) (fun _ h9 => h9) rfl (by decide +kernel) rfl rfl (Nat.le_of_ble_eq_true rfl) dMo_read_183 (fun H locs hP hD hS => ?_)
                rw [wm_p6] at hP hD
                obtain ⟨I10, eI10⟩ : ∃ z, z = ui I9 0 6 (nI 0) := ⟨_, rfl⟩
                rw [← eI10] at hP hD
                refine lv_aload_n hx hb dMo_read_186 rfl (lv_at hl 0 rfl) ?_
                refine lv_iconst (v := nI 0) hx hb dMo_read_187 (by decide +kernel) ?_
                refine va_put (D := (dC, dI)) (ci := 8) (fs := mo_f b I10 (us D 1 v)) (v := .int (nI 0)) (ty := .int) (C := RMo) (T := TMo) (N := 27) hx hb hts inMo tyMo tyMo_ok nmMo hown hK hP hD hS 0 rfl rfl 1 (by decide) (hts _ tw_648) (fun _ h9 => h9) rfl (by decide +kernel) rfl rfl (Nat.le_of_ble_eq_true rfl) dMo_read_188 (fun H locs hP hD hS => ?_)
                rw [wm_p1] at hP hD
                obtain ⟨I11, eI11⟩ : ∃ z, z = ui I10 0 1 (nI 0) := ⟨_, rfl⟩
                rw [← eI11] at hP hD
                refine lv_aload_n hx hb dMo_read_191 rfl (lv_at hl 0 rfl) ?_
                refine lv_iload hx hb dMo_read_192 (lv_at hl 5 rfl) ?_
                refine lv_iconst (v := nI 2) hx hb dMo_read_194 (by decide +kernel) ?_
                refine ct_i (va_runV (As := [.int (nI 0), .int (nI 2)]) (rest := []) ⟨hx, hb, hml, hown, hts⟩ (kMo_fails0 l dC dI k b I11 (us D 1 v) _ (nI 2) (by rw [eI11, ui_n _ _ _ (by decide), eI10, ui_n _ _ _ (by decide), eI9, ui_n _ _ _ (by decide), eI8, ui_n _ _ _ (by decide), eI3, ui_n _ _ _ (by decide), eI1, ui_s])) (cwV 2 hts (gw_V tw_737 tw_739 sl_Mo_fails tw_9 tw_740) rfl rfl rfl (by decide +kernel) ⟨Nat.le_of_ble_eq_true rfl, Nat.le_of_ble_eq_true rfl⟩) ⟨ct_blind (ev := fun _ => True) (fun _ _ _ _ h => h), va_recv hK hP (ci := 8) (q0 := 0) rfl rfl, ct_now (ev := fun _ => True) (fun _ _ _ => trivial) hP hK hD⟩ rfl rfl hl.1 rfl (lv_room (Nat.le_of_ble_eq_true rfl)) dMo_read_195 ⟨Nat.le_of_ble_eq_true rfl, Nat.le_of_ble_eq_true rfl⟩) hD hS hA (fun r12 u12 H locs hw12 hP hD hS => ?_)
                subst hw12
                refine lv_if_eq (tgt := 205) hx hb dMo_read_198 (by decide) (fun c198 => ?_) (fun c198 => ?_)
                · have c198 : 0 = 0 := (nI_eq (a := 0) (b := 0) (by omega) (by omega)).mp (show nI 0 = nI 0 from c198)
                  refine lv_iload hx hb dMo_read_205 (lv_at hl 4 rfl) ?_
                  rw [hQ9]
                  exact ct_ri hx hb hr hlocks (I11, v) (Or.inr (Or.inr ⟨hok, by omega, rfl, by rw [eI11, eI10, eI9, eI8, eI3, eI1], fun q hq => hv q (by omega)⟩)) hP hD hS (Nat.le_refl _) (Nat.le_refl _) dMo_read_207
                · have c198 : ¬ 0 = 0 := fun q9 => c198 (show nI 0 = nI 0 from (nI_eq (a := 0) (b := 0) (by omega) (by omega)).mpr q9)
                  exact absurd (by decide) c198
              · have c111 : ¬ (fi_n oc n) ≤ i := fun q9 => c111 (show nI (fi_n oc n) ≤ nI i from (nI_leI (a := (fi_n oc n)) (b := i) (by omega) (by omega)).mpr q9)
                refine lv_bipush (v := nI 44) hx hb dMo_read_114 (by decide +kernel) ?_
                refine lv_iload_n hx hb dMo_read_116 rfl (lv_at hl 1 rfl) ?_
                refine lv_iload hx hb dMo_read_117 (lv_at hl 6 rfl) ?_
                have ga := fi_at hok hn (i := i) (by omega)
                have gb : nu oc 34 2 ≠ 8 → nu oc 32 2 = 2 * nu oc 22 2 := fun z => by rcases k2 with z2 | z2 <;> rw [z2] at k3 <;> omega
                have gc : nu oc 34 2 = 8 → nu oc 32 2 = nu oc 22 2 := fun z => by rw [z] at k3; omega
                refine lv_imul hx hb dMo_read_119 ?_
                refine rw_i (y := nI ((nu oc 32 2) * i)) (pk_mul _ _) ?_
                refine lv_iadd hx hb dMo_read_120 ?_
                refine rw_i (y := nI (44 + ((nu oc 32 2) * i))) (nI_add _ _) ?_
                refine lv_istore (lv' := [(7, .int (nI (44 + ((nu oc 32 2) * i)))), (0, .ref (b 0)), (1, .int (nI (nu oc 32 2))), (2, .int (nI (nu oc 22 2))), (3, .int (nI (nu oc 34 2))), (4, .int (nI (fi_n oc n))), (5, .int (nI 0)), (6, .int (nI i))]) hx hb dMo_read_121 hl (by decide) rfl (fun ls hl => ?_)
                refine lv_aload_n hx hb dMo_read_123 rfl (lv_at hl 1 rfl) ?_
                refine va_get (D := (dC, dI)) (ci := 8) (v := .ref (b 8)) (C := RMo) (T := TMo) (N := 27) hx hb hts inMo hown hK hP 0 rfl rfl 19 (by decide) (hts _ tw_666) (fun _ h9 => h9) rfl dMo_read_124 ?_
                refine lv_iload hx hb dMo_read_127 (lv_at hl 7 rfl) ?_
                refine lv_iload_n hx hb dMo_read_129 rfl (lv_at hl 3 rfl) ?_
                refine lv_iconst (v := nI 1) hx hb dMo_read_130 (by decide +kernel) ?_
                refine lv_icmp_ne (tgt := 144) hx hb dMo_read_131 (by decide) (fun c131 => ?_) (fun c131 => ?_)
                · have c131 : ¬ (nu oc 22 2) = 1 := fun q9 => c131 (show nI (nu oc 22 2) = nI 1 from (nI_eq (a := (nu oc 22 2)) (b := 1) (by omega) (by omega)).mpr q9)
                  refine lv_aload_n hx hb dMo_read_144 rfl (lv_at hl 1 rfl) ?_
                  refine lv_iload hx hb dMo_read_145 (lv_at hl 0 rfl) ?_
                  refine lv_iload_n hx hb dMo_read_147 rfl (lv_at hl 4 rfl) ?_
                  refine ct_d (va_runV (As := [.int (nI (44 + ((nu oc 32 2) * i))), .int (nI (nu oc 34 2))]) (rest := [.int (nI i), .ref (b 8)]) ⟨hx, hb, hml, hown, hts⟩ (kMo_heard2 l dC dI k b I8 (us D 1 v) _ (44 + ((nu oc 32 2) * i)) (nu oc 34 2) oc (by omega) (by omega) (by omega) (fun j hj => by rw [eI8, ui_o _ _ _ (by decide), eI3, ui_o _ _ _ (by decide), eI1, ui_o _ _ _ (by decide)]; exact ho j hj)) (cwV 2 hts (gw_V tw_762 tw_764 sl_Mo_heard tw_9 tw_765) rfl rfl rfl (by decide +kernel) ⟨Nat.le_of_ble_eq_true rfl, Nat.le_of_ble_eq_true rfl⟩) ⟨ct_blind (ev := fun _ => True) (fun _ _ _ _ h => h), va_recv hK hP (ci := 8) (q0 := 0) rfl rfl, ct_now (ev := fun _ => True) (fun _ _ _ => trivial) hP hK hD⟩ rfl rfl hl.1 rfl (lv_room (Nat.le_of_ble_eq_true rfl)) dMo_read_148 ⟨Nat.le_of_ble_eq_true rfl, Nat.le_of_ble_eq_true rfl⟩) hD hS hA (fun r13 u13 H locs hw13 hP hD hS => ?_)
                  subst hw13
                  refine lv_aload_n hx hb dMo_read_151 rfl (lv_at hl 1 rfl) ?_
                  refine lv_iload hx hb dMo_read_152 (lv_at hl 0 rfl) ?_
                  refine lv_iload_n hx hb dMo_read_154 rfl (lv_at hl 4 rfl) ?_
                  refine lv_bipush (v := nI 8) hx hb dMo_read_155 (by decide +kernel) ?_
                  refine lv_idiv hx hb dMo_read_157 (by decide +kernel) ?_
                  refine rw_i (y := nI ((nu oc 34 2) / 8)) (pk_div (by omega) (by omega) (by omega)) ?_
                  refine lv_iadd hx hb dMo_read_158 ?_
                  refine rw_i (y := nI ((44 + ((nu oc 32 2) * i)) + ((nu oc 34 2) / 8))) (nI_add _ _) ?_
                  refine lv_iload_n hx hb dMo_read_159 rfl (lv_at hl 4 rfl) ?_
                  refine ct_d (va_runV (As := [.int (nI ((44 + ((nu oc 32 2) * i)) + ((nu oc 34 2) / 8))), .int (nI (nu oc 34 2))]) (rest := [.double (fi_ch oc (nu oc 34 2) (44 + ((nu oc 32 2) * i))), .int (nI i), .ref (b 8)]) ⟨hx, hb, hml, hown, hts⟩ (kMo_heard2 l dC dI k b I8 (us D 1 v) _ ((44 + ((nu oc 32 2) * i)) + ((nu oc 34 2) / 8)) (nu oc 34 2) oc (by omega) (by omega) (by omega) (fun j hj => by rw [eI8, ui_o _ _ _ (by decide), eI3, ui_o _ _ _ (by decide), eI1, ui_o _ _ _ (by decide)]; exact ho j hj)) (cwV 2 hts (gw_V tw_762 tw_764 sl_Mo_heard tw_9 tw_765) rfl rfl rfl (by decide +kernel) ⟨Nat.le_of_ble_eq_true rfl, Nat.le_of_ble_eq_true rfl⟩) ⟨ct_blind (ev := fun _ => True) (fun _ _ _ _ h => h), va_recv hK hP (ci := 8) (q0 := 0) rfl rfl, ct_now (ev := fun _ => True) (fun _ _ _ => trivial) hP hK hD⟩ rfl rfl hl.1 rfl (lv_room (Nat.le_of_ble_eq_true rfl)) dMo_read_160 ⟨Nat.le_of_ble_eq_true rfl, Nat.le_of_ble_eq_true rfl⟩) hD hS hA (fun r14 u14 H locs hw14 hP hD hS => ?_)
                  subst hw14
                  refine lv_dadd hx hb dMo_read_163 (fb_n (fi_su_b oc _ _ _) (by decide)) ?_
                  refine lv_ldc2d (v := 4611686018427387904) hx hb hown (hts _ tw_767) dMo_read_164 ?_
                  refine rw_d (y := hd_2) rfl ?_
                  refine lv_ddiv hx hb dMo_read_167 (fb_n (fi_hf_b oc _ _ _) (by decide)) ?_
                  refine rw_d (y := fi_sa oc i) ((if_neg c131).symm) ?_
                  refine rw_ast_d hx hb hK hP hD hS 8 1 rfl rfl (by omega) (by decide) dMo_read_168 (fun H locs hP hD hS => ?_)
                  rw [wm_a8] at hP hD
                  obtain ⟨D15, eD15⟩ : ∃ z, z = ud (us D 1 v) 1 i (fi_sa oc i) := ⟨_, rfl⟩
                  rw [← eD15] at hP hD
                  refine lv_iinc (v := nI (i + 1)) (lv' := [(6, .int (nI (i + 1))), (7, .int (nI (44 + ((nu oc 32 2) * i)))), (0, .ref (b 0)), (1, .int (nI (nu oc 32 2))), (2, .int (nI (nu oc 22 2))), (3, .int (nI (nu oc 34 2))), (4, .int (nI (fi_n oc n))), (5, .int (nI 0))]) hx hb dMo_read_169 hl (k := 7) rfl (nI_1 _) (by decide) rfl (fun ls hl => ?_)
                  refine lv_goto (tgt := 107) hx hb dMo_read_172 (by decide) ?_
                  rw [eD15] at hP hD
                  rw [ud_us] at hP hD
                  exact ih107 (i + 1) (vf_upd v i (fi_sa oc i)) (by omega) (by omega) (fill_1 hv rfl) _ _ hP hD hS ls (lv_sub hl [2, 3, 4, 5, 6, 7, 0] rfl)
                · have c131 : (nu oc 22 2) = 1 := (nI_eq (a := (nu oc 22 2)) (b := 1) (by omega) (by omega)).mp (show nI (nu oc 22 2) = nI 1 from c131)
                  have c131b := c131
                  refine lv_aload_n hx hb dMo_read_134 rfl (lv_at hl 1 rfl) ?_
                  refine lv_iload hx hb dMo_read_135 (lv_at hl 0 rfl) ?_
                  refine lv_iload_n hx hb dMo_read_137 rfl (lv_at hl 4 rfl) ?_
                  refine ct_d (va_runV (As := [.int (nI (44 + ((nu oc 32 2) * i))), .int (nI (nu oc 34 2))]) (rest := [.int (nI i), .ref (b 8)]) ⟨hx, hb, hml, hown, hts⟩ (kMo_heard2 l dC dI k b I8 (us D 1 v) _ (44 + ((nu oc 32 2) * i)) (nu oc 34 2) oc (by omega) (by omega) (by omega) (fun j hj => by rw [eI8, ui_o _ _ _ (by decide), eI3, ui_o _ _ _ (by decide), eI1, ui_o _ _ _ (by decide)]; exact ho j hj)) (cwV 2 hts (gw_V tw_762 tw_764 sl_Mo_heard tw_9 tw_765) rfl rfl rfl (by decide +kernel) ⟨Nat.le_of_ble_eq_true rfl, Nat.le_of_ble_eq_true rfl⟩) ⟨ct_blind (ev := fun _ => True) (fun _ _ _ _ h => h), va_recv hK hP (ci := 8) (q0 := 0) rfl rfl, ct_now (ev := fun _ => True) (fun _ _ _ => trivial) hP hK hD⟩ rfl rfl hl.1 rfl (lv_room (Nat.le_of_ble_eq_true rfl)) dMo_read_138 ⟨Nat.le_of_ble_eq_true rfl, Nat.le_of_ble_eq_true rfl⟩) hD hS hA (fun r16 u16 H locs hw16 hP hD hS => ?_)
                  subst hw16
                  refine lv_goto (tgt := 168) hx hb dMo_read_141 (by decide) ?_
                  refine rw_d (y := fi_sa oc i) ((if_pos c131).symm) ?_
                  refine rw_ast_d hx hb hK hP hD hS 8 1 rfl rfl (by omega) (by decide) dMo_read_168 (fun H locs hP hD hS => ?_)
                  rw [wm_a8] at hP hD
                  obtain ⟨D17, eD17⟩ : ∃ z, z = ud (us D 1 v) 1 i (fi_sa oc i) := ⟨_, rfl⟩
                  rw [← eD17] at hP hD
                  refine lv_iinc (v := nI (i + 1)) (lv' := [(6, .int (nI (i + 1))), (7, .int (nI (44 + ((nu oc 32 2) * i)))), (0, .ref (b 0)), (1, .int (nI (nu oc 32 2))), (2, .int (nI (nu oc 22 2))), (3, .int (nI (nu oc 34 2))), (4, .int (nI (fi_n oc n))), (5, .int (nI 0))]) hx hb dMo_read_169 hl (k := 7) rfl (nI_1 _) (by decide) rfl (fun ls hl => ?_)
                  refine lv_goto (tgt := 107) hx hb dMo_read_172 (by decide) ?_
                  rw [eD17] at hP hD
                  rw [ud_us] at hP hD
                  exact ih107 (i + 1) (vf_upd v i (fi_sa oc i)) (by omega) (by omega) (fill_1 hv rfl) _ _ hP hD hS ls (lv_sub hl [2, 3, 4, 5, 6, 7, 0] rfl)
          exact L107 _ 0 (D 1) (Nat.lt_succ_self _) (by omega) (fun q hq => absurd hq (Nat.not_lt_zero _)) _ _ hP hD hS ls (lv_sub hl [6, 5, 4, 3, 2, 1, 0] rfl)
      · have c77 : ¬ (fi_n oc n) ≤ 320 := fun q9 => c77 (show nI (fi_n oc n) ≤ nI 320 from (nI_leI (a := (fi_n oc n)) (b := 320) (by omega) (by omega)).mpr q9)
        refine lv_iconst (v := nI 1) hx hb dMo_read_80 (by decide +kernel) ?_
        refine lv_goto (tgt := 85) hx hb dMo_read_81 (by decide) ?_
        refine lv_istore (lv' := [(5, .int (nI 1)), (4, .int (nI (fi_n oc n))), (3, .int (nI (nu oc 34 2))), (2, .int (nI (nu oc 22 2))), (1, .int (nI (nu oc 32 2))), (0, .ref (b 0))]) hx hb dMo_read_85 hl (by decide) rfl (fun ls hl => ?_)
        refine lv_iload hx hb dMo_read_87 (lv_at hl 0 rfl) ?_
        refine lv_if_ne (tgt := 186) hx hb dMo_read_89 (by decide) (fun c89 => ?_) (fun c89 => ?_)
        · have c89 : ¬ 1 = 0 := fun q9 => c89 (show nI 1 = nI 0 from (nI_eq (a := 1) (b := 0) (by omega) (by omega)).mpr q9)
          refine lv_aload_n hx hb dMo_read_186 rfl (lv_at hl 5 rfl) ?_
          refine lv_iconst (v := nI 0) hx hb dMo_read_187 (by decide +kernel) ?_
          refine va_put (D := (dC, dI)) (ci := 8) (fs := mo_f b I3 D) (v := .int (nI 0)) (ty := .int) (C := RMo) (T := TMo) (N := 27) hx hb hts inMo tyMo tyMo_ok nmMo hown hK hP hD hS 0 rfl rfl 1 (by decide) (hts _ tw_648) (fun _ h9 => h9) rfl (by decide +kernel) rfl rfl (Nat.le_of_ble_eq_true rfl) dMo_read_188 (fun H locs hP hD hS => ?_)
          rw [wm_p1] at hP hD
          obtain ⟨I18, eI18⟩ : ∃ z, z = ui I3 0 1 (nI 0) := ⟨_, rfl⟩
          rw [← eI18] at hP hD
          refine lv_aload_n hx hb dMo_read_191 rfl (lv_at hl 5 rfl) ?_
          refine lv_iload hx hb dMo_read_192 (lv_at hl 0 rfl) ?_
          refine lv_iconst (v := nI 2) hx hb dMo_read_194 (by decide +kernel) ?_
          refine ct_i (va_runV (As := [.int (nI 1), .int (nI 2)]) (rest := []) ⟨hx, hb, hml, hown, hts⟩ (kMo_fails1 l dC dI k b I18 D _ 2 (by omega) (by omega) (by rw [eI18, ui_n _ _ _ (by decide), eI3, ui_n _ _ _ (by decide), eI1, ui_s])) (cwV 2 hts (gw_V tw_737 tw_739 sl_Mo_fails tw_9 tw_740) rfl rfl rfl (by decide +kernel) ⟨Nat.le_of_ble_eq_true rfl, Nat.le_of_ble_eq_true rfl⟩) ⟨ct_blind (ev := fun _ => True) (fun _ _ _ _ h => h), va_recv hK hP (ci := 8) (q0 := 0) rfl rfl, ct_now (ev := fun _ => True) (fun _ _ _ => trivial) hP hK hD⟩ rfl rfl hl.1 rfl (lv_room (Nat.le_of_ble_eq_true rfl)) dMo_read_195 ⟨Nat.le_of_ble_eq_true rfl, Nat.le_of_ble_eq_true rfl⟩) hD hS hA (fun r19 u19 H locs hw19 hP hD hS => ?_)
          obtain ⟨r19e, eu19⟩ := hw19
          subst r19e
          refine lv_if_eq (tgt := 205) hx hb dMo_read_198 (by decide) (fun c198 => ?_) (fun c198 => ?_)
          · have c198 : 1 = 0 := (nI_eq (a := 1) (b := 0) (by omega) (by omega)).mp (show nI 1 = nI 0 from c198)
            exact absurd c198 (by decide)
          · have c198 : ¬ 1 = 0 := fun q9 => c198 (show nI 1 = nI 0 from (nI_eq (a := 1) (b := 0) (by omega) (by omega)).mpr q9)
            refine lv_iconst (v := nI 0) hx hb dMo_read_201 (by decide +kernel) ?_
            refine lv_goto (tgt := 207) hx hb dMo_read_202 (by decide) ?_
            rw [← us_id D 1] at hP hD
            rw [hQ9]
            exact ct_ri hx hb hr hlocks (u19, D 1) (Or.inr (Or.inl ⟨hok, by omega, by rw [eu19, eI18, eI3, eI1]⟩)) hP hD hS (Nat.le_refl _) (Nat.le_refl _) dMo_read_207
        · have c89 : 1 = 0 := (nI_eq (a := 1) (b := 0) (by omega) (by omega)).mp (show nI 1 = nI 0 from c89)
          exact absurd c89 (by decide)
    · exact absurd (by decide) c17
  · skip
    refine va_put (D := (dC, dI)) (ci := 8) (fs := mo_f b I1 D) (v := .int (nI jw)) (ty := .int) (C := RMo) (T := TMo) (N := 27) hx hb hts inMo tyMo tyMo_ok nmMo hown hK hP hD hS 0 rfl rfl 2 (by decide) (hts _ tw_649) (fun _ h9 => h9) rfl (by decide +kernel) rfl rfl (Nat.le_of_ble_eq_true rfl) dMo_read_10 (fun H locs hP hD hS => ?_)
    rw [wm_p2] at hP hD
    obtain ⟨I20, eI20⟩ : ∃ z, z = ui I1 0 2 (nI jw) := ⟨_, rfl⟩
    rw [← eI20] at hP hD
    refine lv_aload_n hx hb dMo_read_13 rfl (lv_at hl 0 rfl) ?_
    refine va_get (D := (dC, dI)) (ci := 8) (v := .int (I20 0 2)) (C := RMo) (T := TMo) (N := 27) hx hb hts inMo hown hK hP 0 rfl rfl 2 (by decide) (hts _ tw_649) (fun _ h9 => h9) rfl dMo_read_14 ?_
    refine rw_i (y := nI jw) (by rw [eI20, ui_s]) ?_
    refine lv_if_lt (tgt := 34) hx hb dMo_read_17 (by decide) (fun c17 => ?_) (fun c17 => ?_)
    · have c17 : jw < 0 := (nI_ltI (a := jw) (b := 0) (by omega) (by omega)).mp (show nI jw < nI 0 from c17)
      exact absurd c17 (Nat.not_lt_zero _)
    · have c17 : ¬ jw < 0 := fun q9 => c17 (show nI jw < nI 0 from (nI_ltI (a := jw) (b := 0) (by omega) (by omega)).mpr q9)
      refine lv_aload_n hx hb dMo_read_20 rfl (lv_at hl 0 rfl) ?_
      refine lv_iconst (v := nI 0) hx hb dMo_read_21 (by decide +kernel) ?_
      refine va_put (D := (dC, dI)) (ci := 8) (fs := mo_f b I20 D) (v := .int (nI 0)) (ty := .int) (C := RMo) (T := TMo) (N := 27) hx hb hts inMo tyMo tyMo_ok nmMo hown hK hP hD hS 0 rfl rfl 1 (by decide) (hts _ tw_648) (fun _ h9 => h9) rfl (by decide +kernel) rfl rfl (Nat.le_of_ble_eq_true rfl) dMo_read_22 (fun H locs hP hD hS => ?_)
      rw [wm_p1] at hP hD
      obtain ⟨I21, eI21⟩ : ∃ z, z = ui I20 0 1 (nI 0) := ⟨_, rfl⟩
      rw [← eI21] at hP hD
      refine lv_aload_n hx hb dMo_read_25 rfl (lv_at hl 0 rfl) ?_
      refine lv_iconst (v := nI 1) hx hb dMo_read_26 (by decide +kernel) ?_
      refine lv_iconst (v := nI 1) hx hb dMo_read_27 (by decide +kernel) ?_
      refine ct_i (va_runV (As := [.int (nI 1), .int (nI 1)]) (rest := []) ⟨hx, hb, hml, hown, hts⟩ (kMo_fails1 l dC dI k b I21 D _ 1 (by omega) (by omega) (by rw [eI21, ui_n _ _ _ (by decide), eI20, ui_n _ _ _ (by decide), eI1, ui_s])) (cwV 2 hts (gw_V tw_737 tw_739 sl_Mo_fails tw_9 tw_740) rfl rfl rfl (by decide +kernel) ⟨Nat.le_of_ble_eq_true rfl, Nat.le_of_ble_eq_true rfl⟩) ⟨ct_blind (ev := fun _ => True) (fun _ _ _ _ h => h), va_recv hK hP (ci := 8) (q0 := 0) rfl rfl, ct_now (ev := fun _ => True) (fun _ _ _ => trivial) hP hK hD⟩ rfl rfl hl.1 rfl (lv_room (Nat.le_of_ble_eq_true rfl)) dMo_read_28 ⟨Nat.le_of_ble_eq_true rfl, Nat.le_of_ble_eq_true rfl⟩) hD hS hA (fun r22 u22 H locs hw22 hP hD hS => ?_)
      obtain ⟨r22e, eu22⟩ := hw22
      subst r22e
      refine lv_pop hx hb dMo_read_31 rfl ?_
      refine lv_iconst (v := nI 0) hx hb dMo_read_32 (by decide +kernel) ?_
      rw [← us_id D 1] at hP hD
      rw [hQ9]
      exact ct_ri hx hb hr hlocks (u22, D 1) (Or.inl ⟨hok, jw, hjw, by rw [eu22, eI21, eI20, eI1]⟩) hP hD hS (Nat.le_refl _) (Nat.le_refl _) dMo_read_33
