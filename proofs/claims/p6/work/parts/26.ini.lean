def de_ty (k : Nat → ClassId) : List (ClassId × FieldType) := [(k 0, .int), (k 1, .double), (k 2, .object "HearingDesk$Pattern"), (k 3, .object "HearingDesk$Word")]
set_option maxHeartbeats 4000000 in
set_option maxRecDepth 100000 in
theorem kFi_init (l : Launch) (dC : Nat → ClassId) (dI : Nat → Nat → Nat) (k : Nat → ClassId) (sz : Nat) (h0 : Nat) : Met l yFi_init wFi_init ({ frames := 1, cells := 1, slots := 400, locals := 12 }) (va_Pc [.ref h0] (ct_pre (dC, dI) (de_ty k) (fun _ => True) ([(h0, .inr (4, [.null, .int 0]))]) sz)) (va_Qv (fun (_ : Nat → Nat) => True) (fun u t => ct_at (dC, dI) (va_A ([(h0, .inr (4, [.null, .int 0]))]) sz) ((fun (u : Nat → Nat) => [(h0, .inr (4, [.ref (u 1), .int (nI 0)])), ((u 1), .inl (k 0, 400, .inl (fun _ => 0)))]) u) t) (va_A ([(h0, .inr (4, [.null, .int 0]))]) sz)) 1 400 (va_A ([(h0, .inr (4, [.null, .int 0]))]) sz) := by
  refine Met.ofW (cc := cFi_init) (maxL := 1) (ret := none) (by decide) rfl ?_
  intro p e s m args below meth c s₁ B hml hv
  obtain ⟨rfl, hsz, hP, hK, hD0, hE⟩ := hv
  have hx := B.exec
  have hb := B.bytes
  have hr := B.returns
  have hts : ∀ w ∈ W0, w.before [.ref h0].toArray s = true := fun w h => atoms_spec (ws := wFi_init) B.pre w (List.mem_cons_of_mem _ h)
  have hown : s.vm.findClass RFi = some m.cls := findClass_of_methodNamed B.named
  have hlocks := B.notSynchronized
  have hin : meth.name = "<init>" := (name_of_methodNamed B.named B.method).1
  subst hsz
  have hD := hD0.self (sz := s.heap.size)
  generalize hAe : va_A ([(h0, .inr (4, [.null, .int 0]))]) s.heap.size = A at hD ⊢
  have hA : ∀ q : Nat, s.heap.size ≤ q → A q := fun q h => by rw [← hAe]; exact Or.inr h
  have hS : va_S A s.heap s.heap [] := va_S.rf
  have hl := lv_entry ([.ref h0]) (n := 1) (Nat.le_of_ble_eq_true rfl)
  rw [lg_entry_eq]
  generalize (lg_sl ([.ref h0]) ++ List.replicate (1 - (lg_sl ([.ref h0])).length) Slot.unset).toArray = ls at hl ⊢
  have hl : lv_has ls 1 [(0, .ref h0)] := hl
  refine lv_aload_n hx hb dFi_init_0 rfl (lv_at hl 0 rfl) ?_
  refine W.objInit hx hb hown (hts _ tw_32) (hts _ tw_25) (hts _ tw_26) rfl (by rw [hml]; exact hl.1) rfl dFi_init_1 (Nat.le_of_ble_eq_true rfl) (Nat.le_of_ble_eq_true rfl) ?_
  refine W.eq (g2 := F0 m 4 ls []) rfl ?_
  refine lv_aload_n hx hb dFi_init_4 rfl (lv_at hl 0 rfl) ?_
  refine lv_sipush (v := nI 400) hx hb dFi_init_5 (by decide +kernel) ?_
  refine rn_newa (atype := .int) (a0 := (400, .inl (fun _ => 0))) (N' := 400) (kA := k 0) hx hb (hts _ tw_41) (ty := .int) rfl hK hP hD hS hA 0 rfl (fun _ h9 => h9) (fun _ => rfl) (by decide +kernel) (by decide +kernel) (by decide) (show 0 + 1 ≤ 1 by decide) (show 0 + 400 ≤ 400 by decide) dFi_init_8 (fun q1 H hP hD hS => ?_)
  have hP : va_P (dC, dI) vwCl [(h0, .inr (4, [.null, .int 0])), (q1, .inl (k 0, 400, .inl (fun _ => 0)))] H := hP
  have hD : va_D A [(h0, .inr (4, [.null, .int 0])), (q1, .inl (k 0, 400, .inl (fun _ => 0)))] := hD
  refine W.widen (k := 1) (n := 400) (by omega) (by omega) ?_
  refine va_putF (D := (dC, dI)) (ci := 4) (fs := [.null, .int 0]) (v := .ref q1) (ty := .array .int) (C := RFi) (T := TFi) (N := 2) hx hb hts inFi tyFi tyFi_ok nmFi hown hK hP hD hS 0 rfl rfl 0 (by decide) (hts _ tw_33) (fun _ h9 => h9) rfl hin rfl (by decide +kernel) rfl rfl (Nat.le_of_ble_eq_true rfl) dFi_init_10 (fun H locs hP hD hS => ?_)
  have hP : va_P (dC, dI) vwCl [(h0, .inr (4, [.ref q1, .int 0])), (q1, .inl (k 0, 400, .inl (fun _ => 0)))] H := hP
  have hD : va_D A [(h0, .inr (4, [.ref q1, .int 0])), (q1, .inl (k 0, 400, .inl (fun _ => 0)))] := hD
  refine lv_aload_n hx hb dFi_init_13 rfl (lv_at hl 0 rfl) ?_
  refine lv_iconst (v := nI 0) hx hb dFi_init_14 (by decide +kernel) ?_
  refine va_put (D := (dC, dI)) (ci := 4) (fs := [.ref q1, .int 0]) (v := .int (nI 0)) (ty := .int) (C := RFi) (T := TFi) (N := 2) hx hb hts inFi tyFi tyFi_ok nmFi hown hK hP hD hS 0 rfl rfl 1 (by decide) (hts _ tw_34) (fun _ h9 => h9) rfl (by decide +kernel) rfl rfl (Nat.le_of_ble_eq_true rfl) dFi_init_15 (fun H locs hP hD hS => ?_)
  have hP : va_P (dC, dI) vwCl [(h0, .inr (4, [.ref q1, .int (nI 0)])), (q1, .inl (k 0, 400, .inl (fun _ => 0)))] H := hP
  have hD : va_D A [(h0, .inr (4, [.ref q1, .int (nI 0)])), (q1, .inl (k 0, 400, .inl (fun _ => 0)))] := hD
  exact ct_rv hx hb hr hlocks (fun n => ([h0, q1] : List Nat).getD n 0) trivial hP hD hS (Nat.le_refl _) (Nat.le_refl _) dFi_init_18
set_option maxHeartbeats 4000000 in
set_option maxRecDepth 100000 in
theorem kSo_init (l : Launch) (dC : Nat → ClassId) (dI : Nat → Nat → Nat) (k : Nat → ClassId) (sz : Nat) (h0 h1 : Nat) : Met l ySo_init wSo_init ({ frames := 1, cells := 4, slots := 504, locals := 12 }) (va_Pc [.ref h0, .ref h1] (ct_pre (dC, dI) (de_ty k) (fun _ => True) ([(h0, .inr (3, [.null, .null, .null, .null, .null, .int 0, .int 0]))]) sz)) (va_Qv (fun (_ : Nat → Nat) => True) (fun u t => ct_at (dC, dI) (va_A ([(h0, .inr (3, [.null, .null, .null, .null, .null, .int 0, .int 0]))]) sz) ((fun (u : Nat → Nat) => [(h0, .inr (3, [.ref h1, .ref (u 1), .ref (u 2), .ref (u 3), .ref (u 4), .int (nI 0), .int (nI 0)])), ((u 1), .inl (k 1, 320, wd_d (fun _ => 0))), ((u 2), .inl (k 1, 32, wd_d (fun _ => 0))), ((u 3), .inl (k 1, 76, wd_d (fun _ => 0))), ((u 4), .inl (k 1, 76, wd_d (fun _ => 0)))]) u) t) (va_A ([(h0, .inr (3, [.null, .null, .null, .null, .null, .int 0, .int 0]))]) sz)) 4 504 (va_A ([(h0, .inr (3, [.null, .null, .null, .null, .null, .int 0, .int 0]))]) sz) := by
  refine Met.ofW (cc := cSo_init) (maxL := 2) (ret := none) (by decide) rfl ?_
  intro p e s m args below meth c s₁ B hml hv
  obtain ⟨rfl, hsz, hP, hK, hD0, hE⟩ := hv
  have hx := B.exec
  have hb := B.bytes
  have hr := B.returns
  have hts : ∀ w ∈ W0, w.before [.ref h0, .ref h1].toArray s = true := fun w h => atoms_spec (ws := wSo_init) B.pre w (List.mem_cons_of_mem _ h)
  have hown : s.vm.findClass RSo = some m.cls := findClass_of_methodNamed B.named
  have hlocks := B.notSynchronized
  have hin : meth.name = "<init>" := (name_of_methodNamed B.named B.method).1
  subst hsz
  have hD := hD0.self (sz := s.heap.size)
  generalize hAe : va_A ([(h0, .inr (3, [.null, .null, .null, .null, .null, .int 0, .int 0]))]) s.heap.size = A at hD ⊢
  have hA : ∀ q : Nat, s.heap.size ≤ q → A q := fun q h => by rw [← hAe]; exact Or.inr h
  have hS : va_S A s.heap s.heap [] := va_S.rf
  have hl := lv_entry ([.ref h0, .ref h1]) (n := 2) (Nat.le_of_ble_eq_true rfl)
  rw [lg_entry_eq]
  generalize (lg_sl ([.ref h0, .ref h1]) ++ List.replicate (2 - (lg_sl ([.ref h0, .ref h1])).length) Slot.unset).toArray = ls at hl ⊢
  have hl : lv_has ls 2 [(0, .ref h0), (1, .ref h1)] := hl
  refine lv_aload_n hx hb dSo_init_0 rfl (lv_at hl 0 rfl) ?_
  refine W.objInit hx hb hown (hts _ tw_73) (hts _ tw_25) (hts _ tw_26) rfl (by rw [hml]; exact hl.1) rfl dSo_init_1 (Nat.le_of_ble_eq_true rfl) (Nat.le_of_ble_eq_true rfl) ?_
  refine W.eq (g2 := F0 m 4 ls []) rfl ?_
  refine lv_aload_n hx hb dSo_init_4 rfl (lv_at hl 0 rfl) ?_
  refine lv_aload_n hx hb dSo_init_5 rfl (lv_at hl 1 rfl) ?_
  refine va_putF (D := (dC, dI)) (ci := 3) (fs := [.null, .null, .null, .null, .null, .int 0, .int 0]) (v := .ref h1) (ty := .object "HearingDesk$Circle") (C := RSo) (T := TSo) (N := 7) hx hb hts inSo tySo tySo_ok nmSo hown hK hP hD hS 0 rfl rfl 0 (by decide) (hts _ tw_74) (fun _ h9 => h9) rfl hin rfl (by decide +kernel) rfl rfl (Nat.le_of_ble_eq_true rfl) dSo_init_6 (fun H locs hP hD hS => ?_)
  have hP : va_P (dC, dI) vwCl [(h0, .inr (3, [.ref h1, .null, .null, .null, .null, .int 0, .int 0]))] H := hP
  have hD : va_D A [(h0, .inr (3, [.ref h1, .null, .null, .null, .null, .int 0, .int 0]))] := hD
  refine lv_aload_n hx hb dSo_init_9 rfl (lv_at hl 0 rfl) ?_
  refine lv_sipush (v := nI 320) hx hb dSo_init_10 (by decide +kernel) ?_
  refine rn_newa (atype := .double) (a0 := (320, wd_d (fun _ => 0))) (N' := 320) (kA := k 1) hx hb (hts _ tw_67) (ty := .double) rfl hK hP hD hS hA 1 rfl (fun _ h9 => h9) (fun _ => rfl) (by decide +kernel) (by decide +kernel) (by decide) (show 0 + 1 ≤ 4 by decide) (show 0 + 320 ≤ 504 by decide) dSo_init_13 (fun q1 H hP hD hS => ?_)
  have hP : va_P (dC, dI) vwCl [(h0, .inr (3, [.ref h1, .null, .null, .null, .null, .int 0, .int 0])), (q1, .inl (k 1, 320, wd_d (fun _ => 0)))] H := hP
  have hD : va_D A [(h0, .inr (3, [.ref h1, .null, .null, .null, .null, .int 0, .int 0])), (q1, .inl (k 1, 320, wd_d (fun _ => 0)))] := hD
  refine W.widen (k := 1) (n := 320) (by omega) (by omega) ?_
  refine va_putF (D := (dC, dI)) (ci := 3) (fs := [.ref h1, .null, .null, .null, .null, .int 0, .int 0]) (v := .ref q1) (ty := .array .double) (C := RSo) (T := TSo) (N := 7) hx hb hts inSo tySo tySo_ok nmSo hown hK hP hD hS 0 rfl rfl 1 (by decide) (hts _ tw_75) (fun _ h9 => h9) rfl hin rfl (by decide +kernel) rfl rfl (Nat.le_of_ble_eq_true rfl) dSo_init_15 (fun H locs hP hD hS => ?_)
  have hP : va_P (dC, dI) vwCl [(h0, .inr (3, [.ref h1, .ref q1, .null, .null, .null, .int 0, .int 0])), (q1, .inl (k 1, 320, wd_d (fun _ => 0)))] H := hP
  have hD : va_D A [(h0, .inr (3, [.ref h1, .ref q1, .null, .null, .null, .int 0, .int 0])), (q1, .inl (k 1, 320, wd_d (fun _ => 0)))] := hD
  refine lv_aload_n hx hb dSo_init_18 rfl (lv_at hl 0 rfl) ?_
  refine lv_bipush (v := nI 32) hx hb dSo_init_19 (by decide +kernel) ?_
  refine rn_newa (atype := .double) (a0 := (32, wd_d (fun _ => 0))) (N' := 32) (kA := k 1) hx hb (hts _ tw_67) (ty := .double) rfl hK hP hD hS hA 1 rfl (fun _ h9 => h9) (fun _ => rfl) (by decide +kernel) (by decide +kernel) (by decide) (show 1 + 1 ≤ 4 by decide) (show 320 + 32 ≤ 504 by decide) dSo_init_21 (fun q2 H hP hD hS => ?_)
  have hP : va_P (dC, dI) vwCl [(h0, .inr (3, [.ref h1, .ref q1, .null, .null, .null, .int 0, .int 0])), (q1, .inl (k 1, 320, wd_d (fun _ => 0))), (q2, .inl (k 1, 32, wd_d (fun _ => 0)))] H := hP
  have hD : va_D A [(h0, .inr (3, [.ref h1, .ref q1, .null, .null, .null, .int 0, .int 0])), (q1, .inl (k 1, 320, wd_d (fun _ => 0))), (q2, .inl (k 1, 32, wd_d (fun _ => 0)))] := hD
  refine W.widen (k := 2) (n := 352) (by omega) (by omega) ?_
  refine va_putF (D := (dC, dI)) (ci := 3) (fs := [.ref h1, .ref q1, .null, .null, .null, .int 0, .int 0]) (v := .ref q2) (ty := .array .double) (C := RSo) (T := TSo) (N := 7) hx hb hts inSo tySo tySo_ok nmSo hown hK hP hD hS 0 rfl rfl 2 (by decide) (hts _ tw_77) (fun _ h9 => h9) rfl hin rfl (by decide +kernel) rfl rfl (Nat.le_of_ble_eq_true rfl) dSo_init_23 (fun H locs hP hD hS => ?_)
  have hP : va_P (dC, dI) vwCl [(h0, .inr (3, [.ref h1, .ref q1, .ref q2, .null, .null, .int 0, .int 0])), (q1, .inl (k 1, 320, wd_d (fun _ => 0))), (q2, .inl (k 1, 32, wd_d (fun _ => 0)))] H := hP
  have hD : va_D A [(h0, .inr (3, [.ref h1, .ref q1, .ref q2, .null, .null, .int 0, .int 0])), (q1, .inl (k 1, 320, wd_d (fun _ => 0))), (q2, .inl (k 1, 32, wd_d (fun _ => 0)))] := hD
  refine lv_aload_n hx hb dSo_init_26 rfl (lv_at hl 0 rfl) ?_
  refine lv_bipush (v := nI 76) hx hb dSo_init_27 (by decide +kernel) ?_
  refine rn_newa (atype := .double) (a0 := (76, wd_d (fun _ => 0))) (N' := 76) (kA := k 1) hx hb (hts _ tw_67) (ty := .double) rfl hK hP hD hS hA 1 rfl (fun _ h9 => h9) (fun _ => rfl) (by decide +kernel) (by decide +kernel) (by decide) (show 2 + 1 ≤ 4 by decide) (show 352 + 76 ≤ 504 by decide) dSo_init_29 (fun q3 H hP hD hS => ?_)
  have hP : va_P (dC, dI) vwCl [(h0, .inr (3, [.ref h1, .ref q1, .ref q2, .null, .null, .int 0, .int 0])), (q1, .inl (k 1, 320, wd_d (fun _ => 0))), (q2, .inl (k 1, 32, wd_d (fun _ => 0))), (q3, .inl (k 1, 76, wd_d (fun _ => 0)))] H := hP
  have hD : va_D A [(h0, .inr (3, [.ref h1, .ref q1, .ref q2, .null, .null, .int 0, .int 0])), (q1, .inl (k 1, 320, wd_d (fun _ => 0))), (q2, .inl (k 1, 32, wd_d (fun _ => 0))), (q3, .inl (k 1, 76, wd_d (fun _ => 0)))] := hD
  refine W.widen (k := 3) (n := 428) (by omega) (by omega) ?_
  refine va_putF (D := (dC, dI)) (ci := 3) (fs := [.ref h1, .ref q1, .ref q2, .null, .null, .int 0, .int 0]) (v := .ref q3) (ty := .array .double) (C := RSo) (T := TSo) (N := 7) hx hb hts inSo tySo tySo_ok nmSo hown hK hP hD hS 0 rfl rfl 3 (by decide) (hts _ tw_78) (fun _ h9 => h9) rfl hin rfl (by decide +kernel) rfl rfl (Nat.le_of_ble_eq_true rfl) dSo_init_31 (fun H locs hP hD hS => ?_)
  have hP : va_P (dC, dI) vwCl [(h0, .inr (3, [.ref h1, .ref q1, .ref q2, .ref q3, .null, .int 0, .int 0])), (q1, .inl (k 1, 320, wd_d (fun _ => 0))), (q2, .inl (k 1, 32, wd_d (fun _ => 0))), (q3, .inl (k 1, 76, wd_d (fun _ => 0)))] H := hP
  have hD : va_D A [(h0, .inr (3, [.ref h1, .ref q1, .ref q2, .ref q3, .null, .int 0, .int 0])), (q1, .inl (k 1, 320, wd_d (fun _ => 0))), (q2, .inl (k 1, 32, wd_d (fun _ => 0))), (q3, .inl (k 1, 76, wd_d (fun _ => 0)))] := hD
  refine lv_aload_n hx hb dSo_init_34 rfl (lv_at hl 0 rfl) ?_
  refine lv_bipush (v := nI 76) hx hb dSo_init_35 (by decide +kernel) ?_
  refine rn_newa (atype := .double) (a0 := (76, wd_d (fun _ => 0))) (N' := 76) (kA := k 1) hx hb (hts _ tw_67) (ty := .double) rfl hK hP hD hS hA 1 rfl (fun _ h9 => h9) (fun _ => rfl) (by decide +kernel) (by decide +kernel) (by decide) (show 3 + 1 ≤ 4 by decide) (show 428 + 76 ≤ 504 by decide) dSo_init_37 (fun q4 H hP hD hS => ?_)
  have hP : va_P (dC, dI) vwCl [(h0, .inr (3, [.ref h1, .ref q1, .ref q2, .ref q3, .null, .int 0, .int 0])), (q1, .inl (k 1, 320, wd_d (fun _ => 0))), (q2, .inl (k 1, 32, wd_d (fun _ => 0))), (q3, .inl (k 1, 76, wd_d (fun _ => 0))), (q4, .inl (k 1, 76, wd_d (fun _ => 0)))] H := hP
  have hD : va_D A [(h0, .inr (3, [.ref h1, .ref q1, .ref q2, .ref q3, .null, .int 0, .int 0])), (q1, .inl (k 1, 320, wd_d (fun _ => 0))), (q2, .inl (k 1, 32, wd_d (fun _ => 0))), (q3, .inl (k 1, 76, wd_d (fun _ => 0))), (q4, .inl (k 1, 76, wd_d (fun _ => 0)))] := hD
  refine W.widen (k := 4) (n := 504) (by omega) (by omega) ?_
  refine va_putF (D := (dC, dI)) (ci := 3) (fs := [.ref h1, .ref q1, .ref q2, .ref q3, .null, .int 0, .int 0]) (v := .ref q4) (ty := .array .double) (C := RSo) (T := TSo) (N := 7) hx hb hts inSo tySo tySo_ok nmSo hown hK hP hD hS 0 rfl rfl 4 (by decide) (hts _ tw_79) (fun _ h9 => h9) rfl hin rfl (by decide +kernel) rfl rfl (Nat.le_of_ble_eq_true rfl) dSo_init_39 (fun H locs hP hD hS => ?_)
  have hP : va_P (dC, dI) vwCl [(h0, .inr (3, [.ref h1, .ref q1, .ref q2, .ref q3, .ref q4, .int 0, .int 0])), (q1, .inl (k 1, 320, wd_d (fun _ => 0))), (q2, .inl (k 1, 32, wd_d (fun _ => 0))), (q3, .inl (k 1, 76, wd_d (fun _ => 0))), (q4, .inl (k 1, 76, wd_d (fun _ => 0)))] H := hP
  have hD : va_D A [(h0, .inr (3, [.ref h1, .ref q1, .ref q2, .ref q3, .ref q4, .int 0, .int 0])), (q1, .inl (k 1, 320, wd_d (fun _ => 0))), (q2, .inl (k 1, 32, wd_d (fun _ => 0))), (q3, .inl (k 1, 76, wd_d (fun _ => 0))), (q4, .inl (k 1, 76, wd_d (fun _ => 0)))] := hD
  refine lv_aload_n hx hb dSo_init_42 rfl (lv_at hl 0 rfl) ?_
  refine lv_iconst (v := nI 0) hx hb dSo_init_43 (by decide +kernel) ?_
  refine va_put (D := (dC, dI)) (ci := 3) (fs := [.ref h1, .ref q1, .ref q2, .ref q3, .ref q4, .int 0, .int 0]) (v := .int (nI 0)) (ty := .int) (C := RSo) (T := TSo) (N := 7) hx hb hts inSo tySo tySo_ok nmSo hown hK hP hD hS 0 rfl rfl 5 (by decide) (hts _ tw_82) (fun _ h9 => h9) rfl (by decide +kernel) rfl rfl (Nat.le_of_ble_eq_true rfl) dSo_init_44 (fun H locs hP hD hS => ?_)
  have hP : va_P (dC, dI) vwCl [(h0, .inr (3, [.ref h1, .ref q1, .ref q2, .ref q3, .ref q4, .int (nI 0), .int 0])), (q1, .inl (k 1, 320, wd_d (fun _ => 0))), (q2, .inl (k 1, 32, wd_d (fun _ => 0))), (q3, .inl (k 1, 76, wd_d (fun _ => 0))), (q4, .inl (k 1, 76, wd_d (fun _ => 0)))] H := hP
  have hD : va_D A [(h0, .inr (3, [.ref h1, .ref q1, .ref q2, .ref q3, .ref q4, .int (nI 0), .int 0])), (q1, .inl (k 1, 320, wd_d (fun _ => 0))), (q2, .inl (k 1, 32, wd_d (fun _ => 0))), (q3, .inl (k 1, 76, wd_d (fun _ => 0))), (q4, .inl (k 1, 76, wd_d (fun _ => 0)))] := hD
  refine lv_aload_n hx hb dSo_init_47 rfl (lv_at hl 0 rfl) ?_
  refine lv_iconst (v := nI 0) hx hb dSo_init_48 (by decide +kernel) ?_
  refine va_put (D := (dC, dI)) (ci := 3) (fs := [.ref h1, .ref q1, .ref q2, .ref q3, .ref q4, .int (nI 0), .int 0]) (v := .int (nI 0)) (ty := .int) (C := RSo) (T := TSo) (N := 7) hx hb hts inSo tySo tySo_ok nmSo hown hK hP hD hS 0 rfl rfl 6 (by decide) (hts _ tw_84) (fun _ h9 => h9) rfl (by decide +kernel) rfl rfl (Nat.le_of_ble_eq_true rfl) dSo_init_49 (fun H locs hP hD hS => ?_)
  have hP : va_P (dC, dI) vwCl [(h0, .inr (3, [.ref h1, .ref q1, .ref q2, .ref q3, .ref q4, .int (nI 0), .int (nI 0)])), (q1, .inl (k 1, 320, wd_d (fun _ => 0))), (q2, .inl (k 1, 32, wd_d (fun _ => 0))), (q3, .inl (k 1, 76, wd_d (fun _ => 0))), (q4, .inl (k 1, 76, wd_d (fun _ => 0)))] H := hP
  have hD : va_D A [(h0, .inr (3, [.ref h1, .ref q1, .ref q2, .ref q3, .ref q4, .int (nI 0), .int (nI 0)])), (q1, .inl (k 1, 320, wd_d (fun _ => 0))), (q2, .inl (k 1, 32, wd_d (fun _ => 0))), (q3, .inl (k 1, 76, wd_d (fun _ => 0))), (q4, .inl (k 1, 76, wd_d (fun _ => 0)))] := hD
  exact ct_rv hx hb hr hlocks (fun n => ([h0, q1, q2, q3, q4] : List Nat).getD n 0) trivial hP hD hS (Nat.le_refl _) (Nat.le_refl _) dSo_init_52
set_option maxHeartbeats 4000000 in
set_option maxRecDepth 100000 in
theorem kPa_init (l : Launch) (dC : Nat → ClassId) (dI : Nat → Nat → Nat) (k : Nat → ClassId) (sz : Nat) (h0 : Nat) : Met l yPa_init wPa_init ({ frames := 1, cells := 1, slots := 32, locals := 12 }) (va_Pc [.ref h0] (ct_pre (dC, dI) (de_ty k) (fun _ => True) ([(h0, .inr (1, [.null, .int 0, .int 0]))]) sz)) (va_Qv (fun (_ : Nat → Nat) => True) (fun u t => ct_at (dC, dI) (va_A ([(h0, .inr (1, [.null, .int 0, .int 0]))]) sz) ((fun (u : Nat → Nat) => [(h0, .inr (1, [.ref (u 1), .int (nI 63), .int (nI 0)])), ((u 1), .inl (k 1, 32, wd_d (fun _ => 0)))]) u) t) (va_A ([(h0, .inr (1, [.null, .int 0, .int 0]))]) sz)) 1 32 (va_A ([(h0, .inr (1, [.null, .int 0, .int 0]))]) sz) := by
  refine Met.ofW (cc := cPa_init) (maxL := 1) (ret := none) (by decide) rfl ?_
  intro p e s m args below meth c s₁ B hml hv
  obtain ⟨rfl, hsz, hP, hK, hD0, hE⟩ := hv
  have hx := B.exec
  have hb := B.bytes
  have hr := B.returns
  have hts : ∀ w ∈ W0, w.before [.ref h0].toArray s = true := fun w h => atoms_spec (ws := wPa_init) B.pre w (List.mem_cons_of_mem _ h)
  have hown : s.vm.findClass RPa = some m.cls := findClass_of_methodNamed B.named
  have hlocks := B.notSynchronized
  have hin : meth.name = "<init>" := (name_of_methodNamed B.named B.method).1
  subst hsz
  have hD := hD0.self (sz := s.heap.size)
  generalize hAe : va_A ([(h0, .inr (1, [.null, .int 0, .int 0]))]) s.heap.size = A at hD ⊢
  have hA : ∀ q : Nat, s.heap.size ≤ q → A q := fun q h => by rw [← hAe]; exact Or.inr h
  have hS : va_S A s.heap s.heap [] := va_S.rf
  have hl := lv_entry ([.ref h0]) (n := 1) (Nat.le_of_ble_eq_true rfl)
  rw [lg_entry_eq]
  generalize (lg_sl ([.ref h0]) ++ List.replicate (1 - (lg_sl ([.ref h0])).length) Slot.unset).toArray = ls at hl ⊢
  have hl : lv_has ls 1 [(0, .ref h0)] := hl
  refine lv_aload_n hx hb dPa_init_0 rfl (lv_at hl 0 rfl) ?_
  refine W.objInit hx hb hown (hts _ tw_112) (hts _ tw_25) (hts _ tw_26) rfl (by rw [hml]; exact hl.1) rfl dPa_init_1 (Nat.le_of_ble_eq_true rfl) (Nat.le_of_ble_eq_true rfl) ?_
  refine W.eq (g2 := F0 m 4 ls []) rfl ?_
  refine lv_aload_n hx hb dPa_init_4 rfl (lv_at hl 0 rfl) ?_
  refine lv_bipush (v := nI 32) hx hb dPa_init_5 (by decide +kernel) ?_
  refine rn_newa (atype := .double) (a0 := (32, wd_d (fun _ => 0))) (N' := 32) (kA := k 1) hx hb (hts _ tw_67) (ty := .double) rfl hK hP hD hS hA 1 rfl (fun _ h9 => h9) (fun _ => rfl) (by decide +kernel) (by decide +kernel) (by decide) (show 0 + 1 ≤ 1 by decide) (show 0 + 32 ≤ 32 by decide) dPa_init_7 (fun q1 H hP hD hS => ?_)
  have hP : va_P (dC, dI) vwCl [(h0, .inr (1, [.null, .int 0, .int 0])), (q1, .inl (k 1, 32, wd_d (fun _ => 0)))] H := hP
  have hD : va_D A [(h0, .inr (1, [.null, .int 0, .int 0])), (q1, .inl (k 1, 32, wd_d (fun _ => 0)))] := hD
  refine W.widen (k := 1) (n := 32) (by omega) (by omega) ?_
  refine va_putF (D := (dC, dI)) (ci := 1) (fs := [.null, .int 0, .int 0]) (v := .ref q1) (ty := .array .double) (C := RPa) (T := TPa) (N := 3) hx hb hts inPa tyPa tyPa_ok nmPa hown hK hP hD hS 0 rfl rfl 0 (by decide) (hts _ tw_113) (fun _ h9 => h9) rfl hin rfl (by decide +kernel) rfl rfl (Nat.le_of_ble_eq_true rfl) dPa_init_9 (fun H locs hP hD hS => ?_)
  have hP : va_P (dC, dI) vwCl [(h0, .inr (1, [.ref q1, .int 0, .int 0])), (q1, .inl (k 1, 32, wd_d (fun _ => 0)))] H := hP
  have hD : va_D A [(h0, .inr (1, [.ref q1, .int 0, .int 0])), (q1, .inl (k 1, 32, wd_d (fun _ => 0)))] := hD
  refine lv_aload_n hx hb dPa_init_12 rfl (lv_at hl 0 rfl) ?_
  refine lv_bipush (v := nI 63) hx hb dPa_init_13 (by decide +kernel) ?_
  refine va_put (D := (dC, dI)) (ci := 1) (fs := [.ref q1, .int 0, .int 0]) (v := .int (nI 63)) (ty := .int) (C := RPa) (T := TPa) (N := 3) hx hb hts inPa tyPa tyPa_ok nmPa hown hK hP hD hS 0 rfl rfl 1 (by decide) (hts _ tw_116) (fun _ h9 => h9) rfl (by decide +kernel) rfl rfl (Nat.le_of_ble_eq_true rfl) dPa_init_15 (fun H locs hP hD hS => ?_)
  have hP : va_P (dC, dI) vwCl [(h0, .inr (1, [.ref q1, .int (nI 63), .int 0])), (q1, .inl (k 1, 32, wd_d (fun _ => 0)))] H := hP
  have hD : va_D A [(h0, .inr (1, [.ref q1, .int (nI 63), .int 0])), (q1, .inl (k 1, 32, wd_d (fun _ => 0)))] := hD
  refine lv_aload_n hx hb dPa_init_18 rfl (lv_at hl 0 rfl) ?_
  refine lv_iconst (v := nI 0) hx hb dPa_init_19 (by decide +kernel) ?_
  refine va_put (D := (dC, dI)) (ci := 1) (fs := [.ref q1, .int (nI 63), .int 0]) (v := .int (nI 0)) (ty := .int) (C := RPa) (T := TPa) (N := 3) hx hb hts inPa tyPa tyPa_ok nmPa hown hK hP hD hS 0 rfl rfl 2 (by decide) (hts _ tw_119) (fun _ h9 => h9) rfl (by decide +kernel) rfl rfl (Nat.le_of_ble_eq_true rfl) dPa_init_20 (fun H locs hP hD hS => ?_)
  have hP : va_P (dC, dI) vwCl [(h0, .inr (1, [.ref q1, .int (nI 63), .int (nI 0)])), (q1, .inl (k 1, 32, wd_d (fun _ => 0)))] H := hP
  have hD : va_D A [(h0, .inr (1, [.ref q1, .int (nI 63), .int (nI 0)])), (q1, .inl (k 1, 32, wd_d (fun _ => 0)))] := hD
  exact ct_rv hx hb hr hlocks (fun n => ([h0, q1] : List Nat).getD n 0) trivial hP hD hS (Nat.le_refl _) (Nat.le_refl _) dPa_init_23
set_option maxHeartbeats 4000000 in
set_option maxRecDepth 100000 in
theorem kWo_begin (l : Launch) (dC : Nat → ClassId) (dI : Nat → Nat → Nat) (k : Nat → ClassId) (sz : Nat) (h0 : Nat) (f x1 x2 x3 x4 : Int32) (x5 : UInt64) : Met l yWo_begin wWo_begin ({ frames := 0, cells := 0, slots := 0, locals := 0 }) (va_Pc [.ref h0, .int f] (ct_pre (dC, dI) (de_ty k) (fun _ => True) ([(h0, .inr (5, [.int x1, .int x2, .int x3, .int x4, .double x5]))]) sz)) (va_Qv (fun (_ : Nat → Nat) => True) (fun u t => ct_at (dC, dI) (va_A ([(h0, .inr (5, [.int x1, .int x2, .int x3, .int x4, .double x5]))]) sz) ((fun (u : Nat → Nat) => [(h0, .inr (5, [.int f, .int (nI 1), .int (-1), .int (nI 63), .double 0]))]) u) t) (va_A ([(h0, .inr (5, [.int x1, .int x2, .int x3, .int x4, .double x5]))]) sz)) 0 0 (va_A ([(h0, .inr (5, [.int x1, .int x2, .int x3, .int x4, .double x5]))]) sz) := by
  refine Met.ofW (cc := cWo_begin) (maxL := 2) (ret := none) (by decide) rfl ?_
  intro p e s m args below meth c s₁ B hml hv
  obtain ⟨rfl, hsz, hP, hK, hD0, hE⟩ := hv
  have hx := B.exec
  have hb := B.bytes
  have hr := B.returns
  have hts : ∀ w ∈ W0, w.before [.ref h0, .int f].toArray s = true := fun w h => atoms_spec (ws := wWo_begin) B.pre w (List.mem_cons_of_mem _ h)
  have hown : s.vm.findClass RWo = some m.cls := findClass_of_methodNamed B.named
  have hlocks := B.notSynchronized
  have hin : meth.name = "begin" := (name_of_methodNamed B.named B.method).1
  subst hsz
  have hD := hD0.self (sz := s.heap.size)
  generalize hAe : va_A ([(h0, .inr (5, [.int x1, .int x2, .int x3, .int x4, .double x5]))]) s.heap.size = A at hD ⊢
  have hA : ∀ q : Nat, s.heap.size ≤ q → A q := fun q h => by rw [← hAe]; exact Or.inr h
  have hS : va_S A s.heap s.heap [] := va_S.rf
  have hl := lv_entry ([.ref h0, .int f]) (n := 2) (Nat.le_of_ble_eq_true rfl)
  rw [lg_entry_eq]
  generalize (lg_sl ([.ref h0, .int f]) ++ List.replicate (2 - (lg_sl ([.ref h0, .int f])).length) Slot.unset).toArray = ls at hl ⊢
  have hl : lv_has ls 2 [(0, .ref h0), (1, .int f)] := hl
  refine lv_aload_n hx hb dWo_begin_0 rfl (lv_at hl 0 rfl) ?_
  refine lv_iload_n hx hb dWo_begin_1 rfl (lv_at hl 1 rfl) ?_
  refine va_put (D := (dC, dI)) (ci := 5) (fs := [.int x1, .int x2, .int x3, .int x4, .double x5]) (v := .int f) (ty := .int) (C := RWo) (T := TWo) (N := 5) hx hb hts inWo tyWo tyWo_ok nmWo hown hK hP hD hS 0 rfl rfl 0 (by decide) (hts _ tw_160) (fun _ h9 => h9) rfl (by decide +kernel) rfl rfl (Nat.le_of_ble_eq_true rfl) dWo_begin_2 (fun H locs hP hD hS => ?_)
  have hP : va_P (dC, dI) vwCl [(h0, .inr (5, [.int f, .int x2, .int x3, .int x4, .double x5]))] H := hP
  have hD : va_D A [(h0, .inr (5, [.int f, .int x2, .int x3, .int x4, .double x5]))] := hD
  refine lv_aload_n hx hb dWo_begin_5 rfl (lv_at hl 0 rfl) ?_
  refine lv_iconst (v := nI 1) hx hb dWo_begin_6 (by decide +kernel) ?_
  refine va_put (D := (dC, dI)) (ci := 5) (fs := [.int f, .int x2, .int x3, .int x4, .double x5]) (v := .int (nI 1)) (ty := .int) (C := RWo) (T := TWo) (N := 5) hx hb hts inWo tyWo tyWo_ok nmWo hown hK hP hD hS 0 rfl rfl 1 (by decide) (hts _ tw_162) (fun _ h9 => h9) rfl (by decide +kernel) rfl rfl (Nat.le_of_ble_eq_true rfl) dWo_begin_7 (fun H locs hP hD hS => ?_)
  have hP : va_P (dC, dI) vwCl [(h0, .inr (5, [.int f, .int (nI 1), .int x3, .int x4, .double x5]))] H := hP
  have hD : va_D A [(h0, .inr (5, [.int f, .int (nI 1), .int x3, .int x4, .double x5]))] := hD
  refine lv_aload_n hx hb dWo_begin_10 rfl (lv_at hl 0 rfl) ?_
  refine lv_iconst (v := (-1)) hx hb dWo_begin_11 (by decide +kernel) ?_
  refine va_put (D := (dC, dI)) (ci := 5) (fs := [.int f, .int (nI 1), .int x3, .int x4, .double x5]) (v := .int (-1)) (ty := .int) (C := RWo) (T := TWo) (N := 5) hx hb hts inWo tyWo tyWo_ok nmWo hown hK hP hD hS 0 rfl rfl 2 (by decide) (hts _ tw_164) (fun _ h9 => h9) rfl (by decide +kernel) rfl rfl (Nat.le_of_ble_eq_true rfl) dWo_begin_12 (fun H locs hP hD hS => ?_)
  have hP : va_P (dC, dI) vwCl [(h0, .inr (5, [.int f, .int (nI 1), .int (-1), .int x4, .double x5]))] H := hP
  have hD : va_D A [(h0, .inr (5, [.int f, .int (nI 1), .int (-1), .int x4, .double x5]))] := hD
  refine lv_aload_n hx hb dWo_begin_15 rfl (lv_at hl 0 rfl) ?_
  refine lv_bipush (v := nI 63) hx hb dWo_begin_16 (by decide +kernel) ?_
  refine va_put (D := (dC, dI)) (ci := 5) (fs := [.int f, .int (nI 1), .int (-1), .int x4, .double x5]) (v := .int (nI 63)) (ty := .int) (C := RWo) (T := TWo) (N := 5) hx hb hts inWo tyWo tyWo_ok nmWo hown hK hP hD hS 0 rfl rfl 3 (by decide) (hts _ tw_166) (fun _ h9 => h9) rfl (by decide +kernel) rfl rfl (Nat.le_of_ble_eq_true rfl) dWo_begin_18 (fun H locs hP hD hS => ?_)
  have hP : va_P (dC, dI) vwCl [(h0, .inr (5, [.int f, .int (nI 1), .int (-1), .int (nI 63), .double x5]))] H := hP
  have hD : va_D A [(h0, .inr (5, [.int f, .int (nI 1), .int (-1), .int (nI 63), .double x5]))] := hD
  refine lv_aload_n hx hb dWo_begin_21 rfl (lv_at hl 0 rfl) ?_
  refine lv_dconst0 hx hb dWo_begin_22 ?_
  refine rw_d (y := 0) rfl ?_
  refine va_put (D := (dC, dI)) (ci := 5) (fs := [.int f, .int (nI 1), .int (-1), .int (nI 63), .double x5]) (v := .double 0) (ty := .double) (C := RWo) (T := TWo) (N := 5) hx hb hts inWo tyWo tyWo_ok nmWo hown hK hP hD hS 0 rfl rfl 4 (by decide) (hts _ tw_168) (fun _ h9 => h9) rfl (by decide +kernel) rfl rfl (Nat.le_of_ble_eq_true rfl) dWo_begin_23 (fun H locs hP hD hS => ?_)
  have hP : va_P (dC, dI) vwCl [(h0, .inr (5, [.int f, .int (nI 1), .int (-1), .int (nI 63), .double 0]))] H := hP
  have hD : va_D A [(h0, .inr (5, [.int f, .int (nI 1), .int (-1), .int (nI 63), .double 0]))] := hD
  exact ct_rv hx hb hr hlocks (fun _ => 0) trivial hP hD hS (Nat.le_refl _) (Nat.le_refl _) dWo_begin_26
set_option maxHeartbeats 4000000 in
set_option maxRecDepth 100000 in
theorem kWo_init (l : Launch) (dC : Nat → ClassId) (dI : Nat → Nat → Nat) (k : Nat → ClassId) (sz : Nat) (h0 : Nat) : Met l yWo_init wWo_init ({ frames := 1, cells := 0, slots := 0, locals := 21 }) (va_Pc [.ref h0] (ct_pre (dC, dI) (de_ty k) (fun _ => True) ([(h0, .inr (5, [.int 0, .int 0, .int 0, .int 0, .double 0]))]) sz)) (va_Qv (fun (_ : Nat → Nat) => True) (fun u t => ct_at (dC, dI) (va_A ([(h0, .inr (5, [.int 0, .int 0, .int 0, .int 0, .double 0]))]) sz) ((fun (u : Nat → Nat) => [(h0, .inr (5, [.int (nI 0), .int (nI 1), .int (-1), .int (nI 63), .double 0]))]) u) t) (va_A ([(h0, .inr (5, [.int 0, .int 0, .int 0, .int 0, .double 0]))]) sz)) 0 0 (va_A ([(h0, .inr (5, [.int 0, .int 0, .int 0, .int 0, .double 0]))]) sz) := by
  refine Met.ofW (cc := cWo_init) (maxL := 1) (ret := none) (by decide) rfl ?_
  intro p e s m args below meth c s₁ B hml hv
  obtain ⟨rfl, hsz, hP, hK, hD0, hE⟩ := hv
  have hx := B.exec
  have hb := B.bytes
  have hr := B.returns
  have hts : ∀ w ∈ W0, w.before [.ref h0].toArray s = true := fun w h => atoms_spec (ws := wWo_init) B.pre w (List.mem_cons_of_mem _ h)
  have hown : s.vm.findClass RWo = some m.cls := findClass_of_methodNamed B.named
  have hlocks := B.notSynchronized
  have hin : meth.name = "<init>" := (name_of_methodNamed B.named B.method).1
  subst hsz
  have hD := hD0.self (sz := s.heap.size)
  generalize hAe : va_A ([(h0, .inr (5, [.int 0, .int 0, .int 0, .int 0, .double 0]))]) s.heap.size = A at hD ⊢
  have hA : ∀ q : Nat, s.heap.size ≤ q → A q := fun q h => by rw [← hAe]; exact Or.inr h
  have hS : va_S A s.heap s.heap [] := va_S.rf
  have hl := lv_entry ([.ref h0]) (n := 1) (Nat.le_of_ble_eq_true rfl)
  rw [lg_entry_eq]
  generalize (lg_sl ([.ref h0]) ++ List.replicate (1 - (lg_sl ([.ref h0])).length) Slot.unset).toArray = ls at hl ⊢
  have hl : lv_has ls 1 [(0, .ref h0)] := hl
  refine lv_aload_n hx hb dWo_init_0 rfl (lv_at hl 0 rfl) ?_
  refine W.objInit hx hb hown (hts _ tw_155) (hts _ tw_25) (hts _ tw_26) rfl (by rw [hml]; exact hl.1) rfl dWo_init_1 (Nat.le_of_ble_eq_true rfl) (Nat.le_of_ble_eq_true rfl) ?_
  refine W.eq (g2 := F0 m 4 ls []) rfl ?_
  refine lv_aload_n hx hb dWo_init_4 rfl (lv_at hl 0 rfl) ?_
  refine lv_iconst (v := nI 0) hx hb dWo_init_5 (by decide +kernel) ?_
  refine ct_v (va_runV (As := [.int (nI 0)]) (rest := []) ⟨hx, hb, hml, hown, hts⟩ (kWo_begin l dC dI k _ h0 (nI 0) 0 0 0 0 0) (cwV 1 hts (gw_V tw_156 tw_158 sl_Wo_begin tw_8 tw_159) rfl rfl rfl (by decide +kernel) ⟨Nat.le_of_ble_eq_true rfl, Nat.le_of_ble_eq_true rfl⟩) ⟨ct_blind (ev := fun _ => True) (fun _ _ _ _ h => h), va_recv hK hP (ci := 5) (q0 := 0) rfl rfl, ct_now (ev := fun _ => True) (fun _ _ _ => trivial) hP hK hD⟩ rfl rfl hl.1 rfl (lv_room (Nat.le_of_ble_eq_true rfl)) dWo_init_6 ⟨Nat.le_of_ble_eq_true rfl, Nat.le_of_ble_eq_true rfl⟩) hD hS hA (fun u H locs hw hP hD hS => ?_)
  have hP : va_P (dC, dI) vwCl [(h0, .inr (5, [.int (nI 0), .int (nI 1), .int (-1), .int (nI 63), .double 0]))] H := hP
  have hD : va_D A [(h0, .inr (5, [.int (nI 0), .int (nI 1), .int (-1), .int (nI 63), .double 0]))] := hD
  exact ct_rv hx hb hr hlocks (fun _ => 0) trivial hP hD hS (Nat.le_refl _) (Nat.le_refl _) dWo_init_9
