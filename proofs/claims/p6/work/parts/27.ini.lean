set_option maxHeartbeats 4000000 in
set_option maxRecDepth 100000 in
theorem kBo_init (l : Launch) (dC : Nat → ClassId) (dI : Nat → Nat → Nat) (k : Nat → ClassId) (sz : Nat) (h0 : Nat) : Met l yBo_init wBo_init ({ frames := 2, cells := 14, slots := 296, locals := 32 }) (va_Pc [.ref h0] (ct_pre (dC, dI) (de_ty k) ev_A ([(h0, .inr (2, [.null, .null, .int 0]))]) sz)) (va_Qv (fun (_ : Nat → Nat) => True) (fun u t => ct_at (dC, dI) (va_A ([(h0, .inr (2, [.null, .null, .int 0]))]) sz) ((fun (u : Nat → Nat) => [(h0, .inr (2, [.ref (u 1), .ref (u 14), .int (nI 0)])), ((u 1), .inl (k 2, 6, .inr (.inr (.inr (.inr (fun j => if j < 6 then some (u (2 + 2 * j)) else none)))))), ((u 2), .inr (1, [.ref (u 3), .int (nI 63), .int (nI 0)])), ((u 3), .inl (k 1, 32, wd_d (fun _ => 0))), ((u 4), .inr (1, [.ref (u 5), .int (nI 63), .int (nI 0)])), ((u 5), .inl (k 1, 32, wd_d (fun _ => 0))), ((u 6), .inr (1, [.ref (u 7), .int (nI 63), .int (nI 0)])), ((u 7), .inl (k 1, 32, wd_d (fun _ => 0))), ((u 8), .inr (1, [.ref (u 9), .int (nI 63), .int (nI 0)])), ((u 9), .inl (k 1, 32, wd_d (fun _ => 0))), ((u 10), .inr (1, [.ref (u 11), .int (nI 63), .int (nI 0)])), ((u 11), .inl (k 1, 32, wd_d (fun _ => 0))), ((u 12), .inr (1, [.ref (u 13), .int (nI 63), .int (nI 0)])), ((u 13), .inl (k 1, 32, wd_d (fun _ => 0))), ((u 14), .inl (k 1, 80, wd_d (fun _ => 0)))]) u) t) (va_A ([(h0, .inr (2, [.null, .null, .int 0]))]) sz)) 14 296 (va_A ([(h0, .inr (2, [.null, .null, .int 0]))]) sz) := by
  refine Met.ofW (cc := cBo_init) (maxL := 2) (ret := none) (by decide) rfl ?_
  intro p e s m args below meth c s₁ B hml hv
  obtain ⟨rfl, hsz, hP, hK, hD0, hE⟩ := hv
  have hx := B.exec
  have hb := B.bytes
  have hr := B.returns
  have hts : ∀ w ∈ W0, w.before [.ref h0].toArray s = true := fun w h => atoms_spec (ws := wBo_init) B.pre w (List.mem_cons_of_mem _ h)
  have hown : s.vm.findClass RBo = some m.cls := findClass_of_methodNamed B.named
  have hlocks := B.notSynchronized
  have hin : meth.name = "<init>" := (name_of_methodNamed B.named B.method).1
  subst hsz
  have hD := hD0.self (sz := s.heap.size)
  generalize hAe : va_A ([(h0, .inr (2, [.null, .null, .int 0]))]) s.heap.size = A at hD ⊢
  have hA : ∀ q : Nat, s.heap.size ≤ q → A q := fun q h => by rw [← hAe]; exact Or.inr h
  have hS : va_S A s.heap s.heap [] := va_S.rf
  have hl := lv_entry ([.ref h0]) (n := 2) (Nat.le_of_ble_eq_true rfl)
  rw [lg_entry_eq]
  generalize (lg_sl ([.ref h0]) ++ List.replicate (2 - (lg_sl ([.ref h0])).length) Slot.unset).toArray = ls at hl ⊢
  have hl : lv_has ls 2 [(0, .ref h0)] := hl
  refine lv_aload_n hx hb dBo_init_0 rfl (lv_at hl 0 rfl) ?_
  refine W.objInit hx hb hown (hts _ tw_105) (hts _ tw_25) (hts _ tw_26) rfl (by rw [hml]; exact hl.1) rfl dBo_init_1 (Nat.le_of_ble_eq_true rfl) (Nat.le_of_ble_eq_true rfl) ?_
  refine W.eq (g2 := F0 m 4 ls []) rfl ?_
  refine lv_aload_n hx hb dBo_init_4 rfl (lv_at hl 0 rfl) ?_
  refine lv_bipush (v := nI 6) hx hb dBo_init_5 (by decide +kernel) ?_
  refine rn_newq (N' := 6) (kA := k 2) hx hb hown (hts _ tw_106) hE.1 hK hP hD hS hA 2 rfl (by decide +kernel) (by decide +kernel) (by decide) (show 0 + 1 ≤ 14 by decide) (show 0 + 6 ≤ 296 by decide) dBo_init_7 (fun q1 H hP hD hS => ?_)
  have hP : va_P (dC, dI) vwCl [(h0, .inr (2, [.null, .null, .int 0])), (q1, .inl (k 2, 6, .inr (.inr (.inr (.inr (fun _ => none))))))] H := hP
  have hD : va_D A [(h0, .inr (2, [.null, .null, .int 0])), (q1, .inl (k 2, 6, .inr (.inr (.inr (.inr (fun _ => none))))))] := hD
  refine W.widen (k := 1) (n := 6) (by omega) (by omega) ?_
  refine va_putF (D := (dC, dI)) (ci := 2) (fs := [.null, .null, .int 0]) (v := .ref q1) (ty := .array (.object "HearingDesk$Pattern")) (C := RBo) (T := TBo) (N := 3) hx hb hts inBo tyBo tyBo_ok nmBo hown hK hP hD hS 0 rfl rfl 0 (by decide) (hts _ tw_129) (fun _ h9 => h9) rfl hin rfl (by decide +kernel) rfl rfl (Nat.le_of_ble_eq_true rfl) dBo_init_10 (fun H locs hP hD hS => ?_)
  have hP : va_P (dC, dI) vwCl [(h0, .inr (2, [.ref q1, .null, .int 0])), (q1, .inl (k 2, 6, .inr (.inr (.inr (.inr (fun _ => none))))))] H := hP
  have hD : va_D A [(h0, .inr (2, [.ref q1, .null, .int 0])), (q1, .inl (k 2, 6, .inr (.inr (.inr (.inr (fun _ => none))))))] := hD
  refine lv_iconst (v := nI 0) hx hb dBo_init_13 (by decide +kernel) ?_
  refine lv_istore_n (lv' := [(1, .int (nI 0)), (0, .ref h0)]) hx hb dBo_init_14 rfl hl (by decide) rfl (fun ls hl => ?_)
  refine lv_iload_n hx hb dBo_init_15 rfl (lv_at hl 0 rfl) ?_
  refine lv_bipush (v := nI 6) hx hb dBo_init_16 (by decide +kernel) ?_
  refine lv_icmp_ge (tgt := 40) hx hb dBo_init_18 (by decide) (fun c18 => ?_) (fun c18 => ?_)
  · have c18 : 6 ≤ 0 := (nI_leI (a := 6) (b := 0) (by omega) (by omega)).mp (show nI 6 ≤ nI 0 from c18)
    exact absurd c18 (by decide)
  · have c18 : ¬ 6 ≤ 0 := fun q9 => c18 (show nI 6 ≤ nI 0 from (nI_leI (a := 6) (b := 0) (by omega) (by omega)).mpr q9)
    refine lv_aload_n hx hb dBo_init_21 rfl (lv_at hl 1 rfl) ?_
    refine va_get (D := (dC, dI)) (ci := 2) (v := .ref q1) (C := RBo) (T := TBo) (N := 3) hx hb hts inBo hown hK hP 0 rfl rfl 0 (by decide) (hts _ tw_129) (fun _ h9 => h9) rfl dBo_init_22 ?_
    refine lv_iload_n hx hb dBo_init_25 rfl (lv_at hl 0 rfl) ?_
    refine va_new (ci := 1) (fs := [.null, .int 0, .int 0]) (C := RPa) (T := TPa) (N := 3) hx hb hts inPa tyPa tyPa_ok hown (hts _ tw_106) (hts _ tw_108) (hts _ tw_6) hK hP hD hS hA rfl (fun j hj => by rcases (show j = 0 ∨ j = 1 ∨ j = 2 by omega) with rfl | rfl | rfl <;> rfl) (show 1 + 1 ≤ 14 by decide) (show 6 + 3 ≤ 296 by decide) dBo_init_26 (fun q2 H hP hD hS => ?_)
    have hP : va_P (dC, dI) vwCl [(h0, .inr (2, [.ref q1, .null, .int 0])), (q1, .inl (k 2, 6, .inr (.inr (.inr (.inr (fun _ => none)))))), (q2, .inr (1, [.null, .int 0, .int 0]))] H := hP
    have hD : va_D A [(h0, .inr (2, [.ref q1, .null, .int 0])), (q1, .inl (k 2, 6, .inr (.inr (.inr (.inr (fun _ => none)))))), (q2, .inr (1, [.null, .int 0, .int 0]))] := hD
    refine W.widen (k := 2) (n := 9) (by omega) (by omega) ?_
    refine lv_dup hx hb dBo_init_29 rfl ?_
    have hP : va_P (dC, dI) vwCl ([(h0, .inr (2, [.ref q1, .null, .int 0])), (q1, .inl (k 2, 6, .inr (.inr (.inr (.inr (fun _ => none))))))] ++ ([(q2, .inr (1, [.null, .int 0, .int 0]))] ++ [])) H := hP
    have hD : va_D A ([(h0, .inr (2, [.ref q1, .null, .int 0])), (q1, .inl (k 2, 6, .inr (.inr (.inr (.inr (fun _ => none))))))] ++ ([(q2, .inr (1, [.null, .int 0, .int 0]))] ++ [])) := hD
    refine sg_v (va_runI (As := []) (rest := [.ref q2, .int (nI 0), .ref q1]) ⟨hx, hb, hml, hown, hts⟩ (kPa_init l dC dI k _ q2) (cwI 0 hts (gw_I tw_111) rfl rfl rfl (hts _ tw_6) (hts _ tw_109) (hts _ tw_110) rfl (by decide +kernel) ⟨Nat.le_of_ble_eq_true rfl, Nat.le_of_ble_eq_true rfl⟩) ⟨ct_blind (ev := (fun _ => True)) (fun _ _ _ _ h => h), ct_now (A := A) (ev := (fun _ => True)) (fun _ _ _ => trivial) (sg_Pc hP) hK (sg_Dc hD)⟩ rfl rfl hl.1 rfl (lv_room (Nat.le_of_ble_eq_true rfl)) dBo_init_30 ⟨(show 2 + 1 ≤ 14 by decide), (show 9 + 32 ≤ 296 by decide)⟩) hP hD hS hA (fun u3 H locs hw3 hP hD hS => ?_)
    have hP : va_P (dC, dI) vwCl [(h0, .inr (2, [.ref q1, .null, .int 0])), (q1, .inl (k 2, 6, .inr (.inr (.inr (.inr (fun _ => none)))))), (q2, .inr (1, [.ref (u3 1), .int (nI 63), .int (nI 0)])), ((u3 1), .inl (k 1, 32, wd_d (fun _ => 0)))] H := hP
    have hD : va_D A [(h0, .inr (2, [.ref q1, .null, .int 0])), (q1, .inl (k 2, 6, .inr (.inr (.inr (.inr (fun _ => none)))))), (q2, .inr (1, [.ref (u3 1), .int (nI 63), .int (nI 0)])), ((u3 1), .inl (k 1, 32, wd_d (fun _ => 0)))] := hD
    refine W.widen (k := 3) (n := 41) (by omega) (by omega) ?_
    refine rw_ast_q hx hb hK hP hD hS 1 2 2 1 (r := (RPa, TPa, 3)) rfl rfl rfl rfl (by decide) (by decide) dBo_init_33 (fun H locs hP hD hS => ?_)
    have hP : va_P (dC, dI) vwCl [(h0, .inr (2, [.ref q1, .null, .int 0])), (q1, .inl (k 2, 6, .inr (.inr (.inr (.inr (va_up (fun _ => none) 0 (some q2))))))), (q2, .inr (1, [.ref (u3 1), .int (nI 63), .int (nI 0)])), ((u3 1), .inl (k 1, 32, wd_d (fun _ => 0)))] H := hP
    have hD : va_D A [(h0, .inr (2, [.ref q1, .null, .int 0])), (q1, .inl (k 2, 6, .inr (.inr (.inr (.inr (va_up (fun _ => none) 0 (some q2))))))), (q2, .inr (1, [.ref (u3 1), .int (nI 63), .int (nI 0)])), ((u3 1), .inl (k 1, 32, wd_d (fun _ => 0)))] := hD
    refine lv_iinc (v := nI 1) (lv' := [(1, .int (nI 1)), (0, .ref h0)]) hx hb dBo_init_34 hl (k := 0) rfl (nI_1 _) (by decide) rfl (fun ls hl => ?_)
    refine lv_goto (tgt := 15) hx hb dBo_init_37 (by decide) ?_
    refine lv_iload_n hx hb dBo_init_15 rfl (lv_at hl 0 rfl) ?_
    refine lv_bipush (v := nI 6) hx hb dBo_init_16 (by decide +kernel) ?_
    refine lv_icmp_ge (tgt := 40) hx hb dBo_init_18 (by decide) (fun c18 => ?_) (fun c18 => ?_)
    · have c18 : 6 ≤ 1 := (nI_leI (a := 6) (b := 1) (by omega) (by omega)).mp (show nI 6 ≤ nI 1 from c18)
      exact absurd c18 (by decide)
    · have c18 : ¬ 6 ≤ 1 := fun q9 => c18 (show nI 6 ≤ nI 1 from (nI_leI (a := 6) (b := 1) (by omega) (by omega)).mpr q9)
      refine lv_aload_n hx hb dBo_init_21 rfl (lv_at hl 1 rfl) ?_
      refine va_get (D := (dC, dI)) (ci := 2) (v := .ref q1) (C := RBo) (T := TBo) (N := 3) hx hb hts inBo hown hK hP 0 rfl rfl 0 (by decide) (hts _ tw_129) (fun _ h9 => h9) rfl dBo_init_22 ?_
      refine lv_iload_n hx hb dBo_init_25 rfl (lv_at hl 0 rfl) ?_
      refine va_new (ci := 1) (fs := [.null, .int 0, .int 0]) (C := RPa) (T := TPa) (N := 3) hx hb hts inPa tyPa tyPa_ok hown (hts _ tw_106) (hts _ tw_108) (hts _ tw_6) hK hP hD hS hA rfl (fun j hj => by rcases (show j = 0 ∨ j = 1 ∨ j = 2 by omega) with rfl | rfl | rfl <;> rfl) (show 3 + 1 ≤ 14 by decide) (show 41 + 3 ≤ 296 by decide) dBo_init_26 (fun q4 H hP hD hS => ?_)
      have hP : va_P (dC, dI) vwCl [(h0, .inr (2, [.ref q1, .null, .int 0])), (q1, .inl (k 2, 6, .inr (.inr (.inr (.inr (va_up (fun _ => none) 0 (some q2))))))), (q2, .inr (1, [.ref (u3 1), .int (nI 63), .int (nI 0)])), ((u3 1), .inl (k 1, 32, wd_d (fun _ => 0))), (q4, .inr (1, [.null, .int 0, .int 0]))] H := hP
      have hD : va_D A [(h0, .inr (2, [.ref q1, .null, .int 0])), (q1, .inl (k 2, 6, .inr (.inr (.inr (.inr (va_up (fun _ => none) 0 (some q2))))))), (q2, .inr (1, [.ref (u3 1), .int (nI 63), .int (nI 0)])), ((u3 1), .inl (k 1, 32, wd_d (fun _ => 0))), (q4, .inr (1, [.null, .int 0, .int 0]))] := hD
      refine W.widen (k := 4) (n := 44) (by omega) (by omega) ?_
      refine lv_dup hx hb dBo_init_29 rfl ?_
      have hP : va_P (dC, dI) vwCl ([(h0, .inr (2, [.ref q1, .null, .int 0])), (q1, .inl (k 2, 6, .inr (.inr (.inr (.inr (va_up (fun _ => none) 0 (some q2))))))), (q2, .inr (1, [.ref (u3 1), .int (nI 63), .int (nI 0)])), ((u3 1), .inl (k 1, 32, wd_d (fun _ => 0)))] ++ ([(q4, .inr (1, [.null, .int 0, .int 0]))] ++ [])) H := hP
      have hD : va_D A ([(h0, .inr (2, [.ref q1, .null, .int 0])), (q1, .inl (k 2, 6, .inr (.inr (.inr (.inr (va_up (fun _ => none) 0 (some q2))))))), (q2, .inr (1, [.ref (u3 1), .int (nI 63), .int (nI 0)])), ((u3 1), .inl (k 1, 32, wd_d (fun _ => 0)))] ++ ([(q4, .inr (1, [.null, .int 0, .int 0]))] ++ [])) := hD
      refine sg_v (va_runI (As := []) (rest := [.ref q4, .int (nI 1), .ref q1]) ⟨hx, hb, hml, hown, hts⟩ (kPa_init l dC dI k _ q4) (cwI 0 hts (gw_I tw_111) rfl rfl rfl (hts _ tw_6) (hts _ tw_109) (hts _ tw_110) rfl (by decide +kernel) ⟨Nat.le_of_ble_eq_true rfl, Nat.le_of_ble_eq_true rfl⟩) ⟨ct_blind (ev := (fun _ => True)) (fun _ _ _ _ h => h), ct_now (A := A) (ev := (fun _ => True)) (fun _ _ _ => trivial) (sg_Pc hP) hK (sg_Dc hD)⟩ rfl rfl hl.1 rfl (lv_room (Nat.le_of_ble_eq_true rfl)) dBo_init_30 ⟨(show 4 + 1 ≤ 14 by decide), (show 44 + 32 ≤ 296 by decide)⟩) hP hD hS hA (fun u5 H locs hw5 hP hD hS => ?_)
      have hP : va_P (dC, dI) vwCl [(h0, .inr (2, [.ref q1, .null, .int 0])), (q1, .inl (k 2, 6, .inr (.inr (.inr (.inr (va_up (fun _ => none) 0 (some q2))))))), (q2, .inr (1, [.ref (u3 1), .int (nI 63), .int (nI 0)])), ((u3 1), .inl (k 1, 32, wd_d (fun _ => 0))), (q4, .inr (1, [.ref (u5 1), .int (nI 63), .int (nI 0)])), ((u5 1), .inl (k 1, 32, wd_d (fun _ => 0)))] H := hP
      have hD : va_D A [(h0, .inr (2, [.ref q1, .null, .int 0])), (q1, .inl (k 2, 6, .inr (.inr (.inr (.inr (va_up (fun _ => none) 0 (some q2))))))), (q2, .inr (1, [.ref (u3 1), .int (nI 63), .int (nI 0)])), ((u3 1), .inl (k 1, 32, wd_d (fun _ => 0))), (q4, .inr (1, [.ref (u5 1), .int (nI 63), .int (nI 0)])), ((u5 1), .inl (k 1, 32, wd_d (fun _ => 0)))] := hD
      refine W.widen (k := 5) (n := 76) (by omega) (by omega) ?_
      refine rw_ast_q hx hb hK hP hD hS 1 2 4 1 (r := (RPa, TPa, 3)) rfl rfl rfl rfl (by decide) (by decide) dBo_init_33 (fun H locs hP hD hS => ?_)
      have hP : va_P (dC, dI) vwCl [(h0, .inr (2, [.ref q1, .null, .int 0])), (q1, .inl (k 2, 6, .inr (.inr (.inr (.inr (va_up (va_up (fun _ => none) 0 (some q2)) 1 (some q4))))))), (q2, .inr (1, [.ref (u3 1), .int (nI 63), .int (nI 0)])), ((u3 1), .inl (k 1, 32, wd_d (fun _ => 0))), (q4, .inr (1, [.ref (u5 1), .int (nI 63), .int (nI 0)])), ((u5 1), .inl (k 1, 32, wd_d (fun _ => 0)))] H := hP
      have hD : va_D A [(h0, .inr (2, [.ref q1, .null, .int 0])), (q1, .inl (k 2, 6, .inr (.inr (.inr (.inr (va_up (va_up (fun _ => none) 0 (some q2)) 1 (some q4))))))), (q2, .inr (1, [.ref (u3 1), .int (nI 63), .int (nI 0)])), ((u3 1), .inl (k 1, 32, wd_d (fun _ => 0))), (q4, .inr (1, [.ref (u5 1), .int (nI 63), .int (nI 0)])), ((u5 1), .inl (k 1, 32, wd_d (fun _ => 0)))] := hD
      refine lv_iinc (v := nI 2) (lv' := [(1, .int (nI 2)), (0, .ref h0)]) hx hb dBo_init_34 hl (k := 0) rfl (nI_1 _) (by decide) rfl (fun ls hl => ?_)
      refine lv_goto (tgt := 15) hx hb dBo_init_37 (by decide) ?_
      refine lv_iload_n hx hb dBo_init_15 rfl (lv_at hl 0 rfl) ?_
      refine lv_bipush (v := nI 6) hx hb dBo_init_16 (by decide +kernel) ?_
      refine lv_icmp_ge (tgt := 40) hx hb dBo_init_18 (by decide) (fun c18 => ?_) (fun c18 => ?_)
      · have c18 : 6 ≤ 2 := (nI_leI (a := 6) (b := 2) (by omega) (by omega)).mp (show nI 6 ≤ nI 2 from c18)
        exact absurd c18 (by decide)
      · have c18 : ¬ 6 ≤ 2 := fun q9 => c18 (show nI 6 ≤ nI 2 from (nI_leI (a := 6) (b := 2) (by omega) (by omega)).mpr q9)
        refine lv_aload_n hx hb dBo_init_21 rfl (lv_at hl 1 rfl) ?_
        refine va_get (D := (dC, dI)) (ci := 2) (v := .ref q1) (C := RBo) (T := TBo) (N := 3) hx hb hts inBo hown hK hP 0 rfl rfl 0 (by decide) (hts _ tw_129) (fun _ h9 => h9) rfl dBo_init_22 ?_
        refine lv_iload_n hx hb dBo_init_25 rfl (lv_at hl 0 rfl) ?_
        refine va_new (ci := 1) (fs := [.null, .int 0, .int 0]) (C := RPa) (T := TPa) (N := 3) hx hb hts inPa tyPa tyPa_ok hown (hts _ tw_106) (hts _ tw_108) (hts _ tw_6) hK hP hD hS hA rfl (fun j hj => by rcases (show j = 0 ∨ j = 1 ∨ j = 2 by omega) with rfl | rfl | rfl <;> rfl) (show 5 + 1 ≤ 14 by decide) (show 76 + 3 ≤ 296 by decide) dBo_init_26 (fun q6 H hP hD hS => ?_)
        have hP : va_P (dC, dI) vwCl [(h0, .inr (2, [.ref q1, .null, .int 0])), (q1, .inl (k 2, 6, .inr (.inr (.inr (.inr (va_up (va_up (fun _ => none) 0 (some q2)) 1 (some q4))))))), (q2, .inr (1, [.ref (u3 1), .int (nI 63), .int (nI 0)])), ((u3 1), .inl (k 1, 32, wd_d (fun _ => 0))), (q4, .inr (1, [.ref (u5 1), .int (nI 63), .int (nI 0)])), ((u5 1), .inl (k 1, 32, wd_d (fun _ => 0))), (q6, .inr (1, [.null, .int 0, .int 0]))] H := hP
        have hD : va_D A [(h0, .inr (2, [.ref q1, .null, .int 0])), (q1, .inl (k 2, 6, .inr (.inr (.inr (.inr (va_up (va_up (fun _ => none) 0 (some q2)) 1 (some q4))))))), (q2, .inr (1, [.ref (u3 1), .int (nI 63), .int (nI 0)])), ((u3 1), .inl (k 1, 32, wd_d (fun _ => 0))), (q4, .inr (1, [.ref (u5 1), .int (nI 63), .int (nI 0)])), ((u5 1), .inl (k 1, 32, wd_d (fun _ => 0))), (q6, .inr (1, [.null, .int 0, .int 0]))] := hD
        refine W.widen (k := 6) (n := 79) (by omega) (by omega) ?_
        refine lv_dup hx hb dBo_init_29 rfl ?_
        have hP : va_P (dC, dI) vwCl ([(h0, .inr (2, [.ref q1, .null, .int 0])), (q1, .inl (k 2, 6, .inr (.inr (.inr (.inr (va_up (va_up (fun _ => none) 0 (some q2)) 1 (some q4))))))), (q2, .inr (1, [.ref (u3 1), .int (nI 63), .int (nI 0)])), ((u3 1), .inl (k 1, 32, wd_d (fun _ => 0))), (q4, .inr (1, [.ref (u5 1), .int (nI 63), .int (nI 0)])), ((u5 1), .inl (k 1, 32, wd_d (fun _ => 0)))] ++ ([(q6, .inr (1, [.null, .int 0, .int 0]))] ++ [])) H := hP
        have hD : va_D A ([(h0, .inr (2, [.ref q1, .null, .int 0])), (q1, .inl (k 2, 6, .inr (.inr (.inr (.inr (va_up (va_up (fun _ => none) 0 (some q2)) 1 (some q4))))))), (q2, .inr (1, [.ref (u3 1), .int (nI 63), .int (nI 0)])), ((u3 1), .inl (k 1, 32, wd_d (fun _ => 0))), (q4, .inr (1, [.ref (u5 1), .int (nI 63), .int (nI 0)])), ((u5 1), .inl (k 1, 32, wd_d (fun _ => 0)))] ++ ([(q6, .inr (1, [.null, .int 0, .int 0]))] ++ [])) := hD
        refine sg_v (va_runI (As := []) (rest := [.ref q6, .int (nI 2), .ref q1]) ⟨hx, hb, hml, hown, hts⟩ (kPa_init l dC dI k _ q6) (cwI 0 hts (gw_I tw_111) rfl rfl rfl (hts _ tw_6) (hts _ tw_109) (hts _ tw_110) rfl (by decide +kernel) ⟨Nat.le_of_ble_eq_true rfl, Nat.le_of_ble_eq_true rfl⟩) ⟨ct_blind (ev := (fun _ => True)) (fun _ _ _ _ h => h), ct_now (A := A) (ev := (fun _ => True)) (fun _ _ _ => trivial) (sg_Pc hP) hK (sg_Dc hD)⟩ rfl rfl hl.1 rfl (lv_room (Nat.le_of_ble_eq_true rfl)) dBo_init_30 ⟨(show 6 + 1 ≤ 14 by decide), (show 79 + 32 ≤ 296 by decide)⟩) hP hD hS hA (fun u7 H locs hw7 hP hD hS => ?_)
        have hP : va_P (dC, dI) vwCl [(h0, .inr (2, [.ref q1, .null, .int 0])), (q1, .inl (k 2, 6, .inr (.inr (.inr (.inr (va_up (va_up (fun _ => none) 0 (some q2)) 1 (some q4))))))), (q2, .inr (1, [.ref (u3 1), .int (nI 63), .int (nI 0)])), ((u3 1), .inl (k 1, 32, wd_d (fun _ => 0))), (q4, .inr (1, [.ref (u5 1), .int (nI 63), .int (nI 0)])), ((u5 1), .inl (k 1, 32, wd_d (fun _ => 0))), (q6, .inr (1, [.ref (u7 1), .int (nI 63), .int (nI 0)])), ((u7 1), .inl (k 1, 32, wd_d (fun _ => 0)))] H := hP
        have hD : va_D A [(h0, .inr (2, [.ref q1, .null, .int 0])), (q1, .inl (k 2, 6, .inr (.inr (.inr (.inr (va_up (va_up (fun _ => none) 0 (some q2)) 1 (some q4))))))), (q2, .inr (1, [.ref (u3 1), .int (nI 63), .int (nI 0)])), ((u3 1), .inl (k 1, 32, wd_d (fun _ => 0))), (q4, .inr (1, [.ref (u5 1), .int (nI 63), .int (nI 0)])), ((u5 1), .inl (k 1, 32, wd_d (fun _ => 0))), (q6, .inr (1, [.ref (u7 1), .int (nI 63), .int (nI 0)])), ((u7 1), .inl (k 1, 32, wd_d (fun _ => 0)))] := hD
        refine W.widen (k := 7) (n := 111) (by omega) (by omega) ?_
        refine rw_ast_q hx hb hK hP hD hS 1 2 6 1 (r := (RPa, TPa, 3)) rfl rfl rfl rfl (by decide) (by decide) dBo_init_33 (fun H locs hP hD hS => ?_)
        have hP : va_P (dC, dI) vwCl [(h0, .inr (2, [.ref q1, .null, .int 0])), (q1, .inl (k 2, 6, .inr (.inr (.inr (.inr (va_up (va_up (va_up (fun _ => none) 0 (some q2)) 1 (some q4)) 2 (some q6))))))), (q2, .inr (1, [.ref (u3 1), .int (nI 63), .int (nI 0)])), ((u3 1), .inl (k 1, 32, wd_d (fun _ => 0))), (q4, .inr (1, [.ref (u5 1), .int (nI 63), .int (nI 0)])), ((u5 1), .inl (k 1, 32, wd_d (fun _ => 0))), (q6, .inr (1, [.ref (u7 1), .int (nI 63), .int (nI 0)])), ((u7 1), .inl (k 1, 32, wd_d (fun _ => 0)))] H := hP
        have hD : va_D A [(h0, .inr (2, [.ref q1, .null, .int 0])), (q1, .inl (k 2, 6, .inr (.inr (.inr (.inr (va_up (va_up (va_up (fun _ => none) 0 (some q2)) 1 (some q4)) 2 (some q6))))))), (q2, .inr (1, [.ref (u3 1), .int (nI 63), .int (nI 0)])), ((u3 1), .inl (k 1, 32, wd_d (fun _ => 0))), (q4, .inr (1, [.ref (u5 1), .int (nI 63), .int (nI 0)])), ((u5 1), .inl (k 1, 32, wd_d (fun _ => 0))), (q6, .inr (1, [.ref (u7 1), .int (nI 63), .int (nI 0)])), ((u7 1), .inl (k 1, 32, wd_d (fun _ => 0)))] := hD
        refine lv_iinc (v := nI 3) (lv' := [(1, .int (nI 3)), (0, .ref h0)]) hx hb dBo_init_34 hl (k := 0) rfl (nI_1 _) (by decide) rfl (fun ls hl => ?_)
        refine lv_goto (tgt := 15) hx hb dBo_init_37 (by decide) ?_
        refine lv_iload_n hx hb dBo_init_15 rfl (lv_at hl 0 rfl) ?_
        refine lv_bipush (v := nI 6) hx hb dBo_init_16 (by decide +kernel) ?_
        refine lv_icmp_ge (tgt := 40) hx hb dBo_init_18 (by decide) (fun c18 => ?_) (fun c18 => ?_)
        · have c18 : 6 ≤ 3 := (nI_leI (a := 6) (b := 3) (by omega) (by omega)).mp (show nI 6 ≤ nI 3 from c18)
          exact absurd c18 (by decide)
        · have c18 : ¬ 6 ≤ 3 := fun q9 => c18 (show nI 6 ≤ nI 3 from (nI_leI (a := 6) (b := 3) (by omega) (by omega)).mpr q9)
          refine lv_aload_n hx hb dBo_init_21 rfl (lv_at hl 1 rfl) ?_
          refine va_get (D := (dC, dI)) (ci := 2) (v := .ref q1) (C := RBo) (T := TBo) (N := 3) hx hb hts inBo hown hK hP 0 rfl rfl 0 (by decide) (hts _ tw_129) (fun _ h9 => h9) rfl dBo_init_22 ?_
          refine lv_iload_n hx hb dBo_init_25 rfl (lv_at hl 0 rfl) ?_
          refine va_new (ci := 1) (fs := [.null, .int 0, .int 0]) (C := RPa) (T := TPa) (N := 3) hx hb hts inPa tyPa tyPa_ok hown (hts _ tw_106) (hts _ tw_108) (hts _ tw_6) hK hP hD hS hA rfl (fun j hj => by rcases (show j = 0 ∨ j = 1 ∨ j = 2 by omega) with rfl | rfl | rfl <;> rfl) (show 7 + 1 ≤ 14 by decide) (show 111 + 3 ≤ 296 by decide) dBo_init_26 (fun q8 H hP hD hS => ?_)
          have hP : va_P (dC, dI) vwCl [(h0, .inr (2, [.ref q1, .null, .int 0])), (q1, .inl (k 2, 6, .inr (.inr (.inr (.inr (va_up (va_up (va_up (fun _ => none) 0 (some q2)) 1 (some q4)) 2 (some q6))))))), (q2, .inr (1, [.ref (u3 1), .int (nI 63), .int (nI 0)])), ((u3 1), .inl (k 1, 32, wd_d (fun _ => 0))), (q4, .inr (1, [.ref (u5 1), .int (nI 63), .int (nI 0)])), ((u5 1), .inl (k 1, 32, wd_d (fun _ => 0))), (q6, .inr (1, [.ref (u7 1), .int (nI 63), .int (nI 0)])), ((u7 1), .inl (k 1, 32, wd_d (fun _ => 0))), (q8, .inr (1, [.null, .int 0, .int 0]))] H := hP
          have hD : va_D A [(h0, .inr (2, [.ref q1, .null, .int 0])), (q1, .inl (k 2, 6, .inr (.inr (.inr (.inr (va_up (va_up (va_up (fun _ => none) 0 (some q2)) 1 (some q4)) 2 (some q6))))))), (q2, .inr (1, [.ref (u3 1), .int (nI 63), .int (nI 0)])), ((u3 1), .inl (k 1, 32, wd_d (fun _ => 0))), (q4, .inr (1, [.ref (u5 1), .int (nI 63), .int (nI 0)])), ((u5 1), .inl (k 1, 32, wd_d (fun _ => 0))), (q6, .inr (1, [.ref (u7 1), .int (nI 63), .int (nI 0)])), ((u7 1), .inl (k 1, 32, wd_d (fun _ => 0))), (q8, .inr (1, [.null, .int 0, .int 0]))] := hD
          refine W.widen (k := 8) (n := 114) (by omega) (by omega) ?_
          refine lv_dup hx hb dBo_init_29 rfl ?_
          have hP : va_P (dC, dI) vwCl ([(h0, .inr (2, [.ref q1, .null, .int 0])), (q1, .inl (k 2, 6, .inr (.inr (.inr (.inr (va_up (va_up (va_up (fun _ => none) 0 (some q2)) 1 (some q4)) 2 (some q6))))))), (q2, .inr (1, [.ref (u3 1), .int (nI 63), .int (nI 0)])), ((u3 1), .inl (k 1, 32, wd_d (fun _ => 0))), (q4, .inr (1, [.ref (u5 1), .int (nI 63), .int (nI 0)])), ((u5 1), .inl (k 1, 32, wd_d (fun _ => 0))), (q6, .inr (1, [.ref (u7 1), .int (nI 63), .int (nI 0)])), ((u7 1), .inl (k 1, 32, wd_d (fun _ => 0)))] ++ ([(q8, .inr (1, [.null, .int 0, .int 0]))] ++ [])) H := hP
          have hD : va_D A ([(h0, .inr (2, [.ref q1, .null, .int 0])), (q1, .inl (k 2, 6, .inr (.inr (.inr (.inr (va_up (va_up (va_up (fun _ => none) 0 (some q2)) 1 (some q4)) 2 (some q6))))))), (q2, .inr (1, [.ref (u3 1), .int (nI 63), .int (nI 0)])), ((u3 1), .inl (k 1, 32, wd_d (fun _ => 0))), (q4, .inr (1, [.ref (u5 1), .int (nI 63), .int (nI 0)])), ((u5 1), .inl (k 1, 32, wd_d (fun _ => 0))), (q6, .inr (1, [.ref (u7 1), .int (nI 63), .int (nI 0)])), ((u7 1), .inl (k 1, 32, wd_d (fun _ => 0)))] ++ ([(q8, .inr (1, [.null, .int 0, .int 0]))] ++ [])) := hD
          refine sg_v (va_runI (As := []) (rest := [.ref q8, .int (nI 3), .ref q1]) ⟨hx, hb, hml, hown, hts⟩ (kPa_init l dC dI k _ q8) (cwI 0 hts (gw_I tw_111) rfl rfl rfl (hts _ tw_6) (hts _ tw_109) (hts _ tw_110) rfl (by decide +kernel) ⟨Nat.le_of_ble_eq_true rfl, Nat.le_of_ble_eq_true rfl⟩) ⟨ct_blind (ev := (fun _ => True)) (fun _ _ _ _ h => h), ct_now (A := A) (ev := (fun _ => True)) (fun _ _ _ => trivial) (sg_Pc hP) hK (sg_Dc hD)⟩ rfl rfl hl.1 rfl (lv_room (Nat.le_of_ble_eq_true rfl)) dBo_init_30 ⟨(show 8 + 1 ≤ 14 by decide), (show 114 + 32 ≤ 296 by decide)⟩) hP hD hS hA (fun u9 H locs hw9 hP hD hS => ?_)
          have hP : va_P (dC, dI) vwCl [(h0, .inr (2, [.ref q1, .null, .int 0])), (q1, .inl (k 2, 6, .inr (.inr (.inr (.inr (va_up (va_up (va_up (fun _ => none) 0 (some q2)) 1 (some q4)) 2 (some q6))))))), (q2, .inr (1, [.ref (u3 1), .int (nI 63), .int (nI 0)])), ((u3 1), .inl (k 1, 32, wd_d (fun _ => 0))), (q4, .inr (1, [.ref (u5 1), .int (nI 63), .int (nI 0)])), ((u5 1), .inl (k 1, 32, wd_d (fun _ => 0))), (q6, .inr (1, [.ref (u7 1), .int (nI 63), .int (nI 0)])), ((u7 1), .inl (k 1, 32, wd_d (fun _ => 0))), (q8, .inr (1, [.ref (u9 1), .int (nI 63), .int (nI 0)])), ((u9 1), .inl (k 1, 32, wd_d (fun _ => 0)))] H := hP
          have hD : va_D A [(h0, .inr (2, [.ref q1, .null, .int 0])), (q1, .inl (k 2, 6, .inr (.inr (.inr (.inr (va_up (va_up (va_up (fun _ => none) 0 (some q2)) 1 (some q4)) 2 (some q6))))))), (q2, .inr (1, [.ref (u3 1), .int (nI 63), .int (nI 0)])), ((u3 1), .inl (k 1, 32, wd_d (fun _ => 0))), (q4, .inr (1, [.ref (u5 1), .int (nI 63), .int (nI 0)])), ((u5 1), .inl (k 1, 32, wd_d (fun _ => 0))), (q6, .inr (1, [.ref (u7 1), .int (nI 63), .int (nI 0)])), ((u7 1), .inl (k 1, 32, wd_d (fun _ => 0))), (q8, .inr (1, [.ref (u9 1), .int (nI 63), .int (nI 0)])), ((u9 1), .inl (k 1, 32, wd_d (fun _ => 0)))] := hD
          refine W.widen (k := 9) (n := 146) (by omega) (by omega) ?_
          refine rw_ast_q hx hb hK hP hD hS 1 2 8 1 (r := (RPa, TPa, 3)) rfl rfl rfl rfl (by decide) (by decide) dBo_init_33 (fun H locs hP hD hS => ?_)
          have hP : va_P (dC, dI) vwCl [(h0, .inr (2, [.ref q1, .null, .int 0])), (q1, .inl (k 2, 6, .inr (.inr (.inr (.inr (va_up (va_up (va_up (va_up (fun _ => none) 0 (some q2)) 1 (some q4)) 2 (some q6)) 3 (some q8))))))), (q2, .inr (1, [.ref (u3 1), .int (nI 63), .int (nI 0)])), ((u3 1), .inl (k 1, 32, wd_d (fun _ => 0))), (q4, .inr (1, [.ref (u5 1), .int (nI 63), .int (nI 0)])), ((u5 1), .inl (k 1, 32, wd_d (fun _ => 0))), (q6, .inr (1, [.ref (u7 1), .int (nI 63), .int (nI 0)])), ((u7 1), .inl (k 1, 32, wd_d (fun _ => 0))), (q8, .inr (1, [.ref (u9 1), .int (nI 63), .int (nI 0)])), ((u9 1), .inl (k 1, 32, wd_d (fun _ => 0)))] H := hP
          have hD : va_D A [(h0, .inr (2, [.ref q1, .null, .int 0])), (q1, .inl (k 2, 6, .inr (.inr (.inr (.inr (va_up (va_up (va_up (va_up (fun _ => none) 0 (some q2)) 1 (some q4)) 2 (some q6)) 3 (some q8))))))), (q2, .inr (1, [.ref (u3 1), .int (nI 63), .int (nI 0)])), ((u3 1), .inl (k 1, 32, wd_d (fun _ => 0))), (q4, .inr (1, [.ref (u5 1), .int (nI 63), .int (nI 0)])), ((u5 1), .inl (k 1, 32, wd_d (fun _ => 0))), (q6, .inr (1, [.ref (u7 1), .int (nI 63), .int (nI 0)])), ((u7 1), .inl (k 1, 32, wd_d (fun _ => 0))), (q8, .inr (1, [.ref (u9 1), .int (nI 63), .int (nI 0)])), ((u9 1), .inl (k 1, 32, wd_d (fun _ => 0)))] := hD
          refine lv_iinc (v := nI 4) (lv' := [(1, .int (nI 4)), (0, .ref h0)]) hx hb dBo_init_34 hl (k := 0) rfl (nI_1 _) (by decide) rfl (fun ls hl => ?_)
          refine lv_goto (tgt := 15) hx hb dBo_init_37 (by decide) ?_
          refine lv_iload_n hx hb dBo_init_15 rfl (lv_at hl 0 rfl) ?_
          refine lv_bipush (v := nI 6) hx hb dBo_init_16 (by decide +kernel) ?_
          refine lv_icmp_ge (tgt := 40) hx hb dBo_init_18 (by decide) (fun c18 => ?_) (fun c18 => ?_)
          · have c18 : 6 ≤ 4 := (nI_leI (a := 6) (b := 4) (by omega) (by omega)).mp (show nI 6 ≤ nI 4 from c18)
            exact absurd c18 (by decide)
          · have c18 : ¬ 6 ≤ 4 := fun q9 => c18 (show nI 6 ≤ nI 4 from (nI_leI (a := 6) (b := 4) (by omega) (by omega)).mpr q9)
            refine lv_aload_n hx hb dBo_init_21 rfl (lv_at hl 1 rfl) ?_
            refine va_get (D := (dC, dI)) (ci := 2) (v := .ref q1) (C := RBo) (T := TBo) (N := 3) hx hb hts inBo hown hK hP 0 rfl rfl 0 (by decide) (hts _ tw_129) (fun _ h9 => h9) rfl dBo_init_22 ?_
            refine lv_iload_n hx hb dBo_init_25 rfl (lv_at hl 0 rfl) ?_
            refine va_new (ci := 1) (fs := [.null, .int 0, .int 0]) (C := RPa) (T := TPa) (N := 3) hx hb hts inPa tyPa tyPa_ok hown (hts _ tw_106) (hts _ tw_108) (hts _ tw_6) hK hP hD hS hA rfl (fun j hj => by rcases (show j = 0 ∨ j = 1 ∨ j = 2 by omega) with rfl | rfl | rfl <;> rfl) (show 9 + 1 ≤ 14 by decide) (show 146 + 3 ≤ 296 by decide) dBo_init_26 (fun q10 H hP hD hS => ?_)
            have hP : va_P (dC, dI) vwCl [(h0, .inr (2, [.ref q1, .null, .int 0])), (q1, .inl (k 2, 6, .inr (.inr (.inr (.inr (va_up (va_up (va_up (va_up (fun _ => none) 0 (some q2)) 1 (some q4)) 2 (some q6)) 3 (some q8))))))), (q2, .inr (1, [.ref (u3 1), .int (nI 63), .int (nI 0)])), ((u3 1), .inl (k 1, 32, wd_d (fun _ => 0))), (q4, .inr (1, [.ref (u5 1), .int (nI 63), .int (nI 0)])), ((u5 1), .inl (k 1, 32, wd_d (fun _ => 0))), (q6, .inr (1, [.ref (u7 1), .int (nI 63), .int (nI 0)])), ((u7 1), .inl (k 1, 32, wd_d (fun _ => 0))), (q8, .inr (1, [.ref (u9 1), .int (nI 63), .int (nI 0)])), ((u9 1), .inl (k 1, 32, wd_d (fun _ => 0))), (q10, .inr (1, [.null, .int 0, .int 0]))] H := hP
            have hD : va_D A [(h0, .inr (2, [.ref q1, .null, .int 0])), (q1, .inl (k 2, 6, .inr (.inr (.inr (.inr (va_up (va_up (va_up (va_up (fun _ => none) 0 (some q2)) 1 (some q4)) 2 (some q6)) 3 (some q8))))))), (q2, .inr (1, [.ref (u3 1), .int (nI 63), .int (nI 0)])), ((u3 1), .inl (k 1, 32, wd_d (fun _ => 0))), (q4, .inr (1, [.ref (u5 1), .int (nI 63), .int (nI 0)])), ((u5 1), .inl (k 1, 32, wd_d (fun _ => 0))), (q6, .inr (1, [.ref (u7 1), .int (nI 63), .int (nI 0)])), ((u7 1), .inl (k 1, 32, wd_d (fun _ => 0))), (q8, .inr (1, [.ref (u9 1), .int (nI 63), .int (nI 0)])), ((u9 1), .inl (k 1, 32, wd_d (fun _ => 0))), (q10, .inr (1, [.null, .int 0, .int 0]))] := hD
            refine W.widen (k := 10) (n := 149) (by omega) (by omega) ?_
            refine lv_dup hx hb dBo_init_29 rfl ?_
            have hP : va_P (dC, dI) vwCl ([(h0, .inr (2, [.ref q1, .null, .int 0])), (q1, .inl (k 2, 6, .inr (.inr (.inr (.inr (va_up (va_up (va_up (va_up (fun _ => none) 0 (some q2)) 1 (some q4)) 2 (some q6)) 3 (some q8))))))), (q2, .inr (1, [.ref (u3 1), .int (nI 63), .int (nI 0)])), ((u3 1), .inl (k 1, 32, wd_d (fun _ => 0))), (q4, .inr (1, [.ref (u5 1), .int (nI 63), .int (nI 0)])), ((u5 1), .inl (k 1, 32, wd_d (fun _ => 0))), (q6, .inr (1, [.ref (u7 1), .int (nI 63), .int (nI 0)])), ((u7 1), .inl (k 1, 32, wd_d (fun _ => 0))), (q8, .inr (1, [.ref (u9 1), .int (nI 63), .int (nI 0)])), ((u9 1), .inl (k 1, 32, wd_d (fun _ => 0)))] ++ ([(q10, .inr (1, [.null, .int 0, .int 0]))] ++ [])) H := hP
            have hD : va_D A ([(h0, .inr (2, [.ref q1, .null, .int 0])), (q1, .inl (k 2, 6, .inr (.inr (.inr (.inr (va_up (va_up (va_up (va_up (fun _ => none) 0 (some q2)) 1 (some q4)) 2 (some q6)) 3 (some q8))))))), (q2, .inr (1, [.ref (u3 1), .int (nI 63), .int (nI 0)])), ((u3 1), .inl (k 1, 32, wd_d (fun _ => 0))), (q4, .inr (1, [.ref (u5 1), .int (nI 63), .int (nI 0)])), ((u5 1), .inl (k 1, 32, wd_d (fun _ => 0))), (q6, .inr (1, [.ref (u7 1), .int (nI 63), .int (nI 0)])), ((u7 1), .inl (k 1, 32, wd_d (fun _ => 0))), (q8, .inr (1, [.ref (u9 1), .int (nI 63), .int (nI 0)])), ((u9 1), .inl (k 1, 32, wd_d (fun _ => 0)))] ++ ([(q10, .inr (1, [.null, .int 0, .int 0]))] ++ [])) := hD
            refine sg_v (va_runI (As := []) (rest := [.ref q10, .int (nI 4), .ref q1]) ⟨hx, hb, hml, hown, hts⟩ (kPa_init l dC dI k _ q10) (cwI 0 hts (gw_I tw_111) rfl rfl rfl (hts _ tw_6) (hts _ tw_109) (hts _ tw_110) rfl (by decide +kernel) ⟨Nat.le_of_ble_eq_true rfl, Nat.le_of_ble_eq_true rfl⟩) ⟨ct_blind (ev := (fun _ => True)) (fun _ _ _ _ h => h), ct_now (A := A) (ev := (fun _ => True)) (fun _ _ _ => trivial) (sg_Pc hP) hK (sg_Dc hD)⟩ rfl rfl hl.1 rfl (lv_room (Nat.le_of_ble_eq_true rfl)) dBo_init_30 ⟨(show 10 + 1 ≤ 14 by decide), (show 149 + 32 ≤ 296 by decide)⟩) hP hD hS hA (fun u11 H locs hw11 hP hD hS => ?_)
            have hP : va_P (dC, dI) vwCl [(h0, .inr (2, [.ref q1, .null, .int 0])), (q1, .inl (k 2, 6, .inr (.inr (.inr (.inr (va_up (va_up (va_up (va_up (fun _ => none) 0 (some q2)) 1 (some q4)) 2 (some q6)) 3 (some q8))))))), (q2, .inr (1, [.ref (u3 1), .int (nI 63), .int (nI 0)])), ((u3 1), .inl (k 1, 32, wd_d (fun _ => 0))), (q4, .inr (1, [.ref (u5 1), .int (nI 63), .int (nI 0)])), ((u5 1), .inl (k 1, 32, wd_d (fun _ => 0))), (q6, .inr (1, [.ref (u7 1), .int (nI 63), .int (nI 0)])), ((u7 1), .inl (k 1, 32, wd_d (fun _ => 0))), (q8, .inr (1, [.ref (u9 1), .int (nI 63), .int (nI 0)])), ((u9 1), .inl (k 1, 32, wd_d (fun _ => 0))), (q10, .inr (1, [.ref (u11 1), .int (nI 63), .int (nI 0)])), ((u11 1), .inl (k 1, 32, wd_d (fun _ => 0)))] H := hP
            have hD : va_D A [(h0, .inr (2, [.ref q1, .null, .int 0])), (q1, .inl (k 2, 6, .inr (.inr (.inr (.inr (va_up (va_up (va_up (va_up (fun _ => none) 0 (some q2)) 1 (some q4)) 2 (some q6)) 3 (some q8))))))), (q2, .inr (1, [.ref (u3 1), .int (nI 63), .int (nI 0)])), ((u3 1), .inl (k 1, 32, wd_d (fun _ => 0))), (q4, .inr (1, [.ref (u5 1), .int (nI 63), .int (nI 0)])), ((u5 1), .inl (k 1, 32, wd_d (fun _ => 0))), (q6, .inr (1, [.ref (u7 1), .int (nI 63), .int (nI 0)])), ((u7 1), .inl (k 1, 32, wd_d (fun _ => 0))), (q8, .inr (1, [.ref (u9 1), .int (nI 63), .int (nI 0)])), ((u9 1), .inl (k 1, 32, wd_d (fun _ => 0))), (q10, .inr (1, [.ref (u11 1), .int (nI 63), .int (nI 0)])), ((u11 1), .inl (k 1, 32, wd_d (fun _ => 0)))] := hD
            refine W.widen (k := 11) (n := 181) (by omega) (by omega) ?_
            refine rw_ast_q hx hb hK hP hD hS 1 2 10 1 (r := (RPa, TPa, 3)) rfl rfl rfl rfl (by decide) (by decide) dBo_init_33 (fun H locs hP hD hS => ?_)
            have hP : va_P (dC, dI) vwCl [(h0, .inr (2, [.ref q1, .null, .int 0])), (q1, .inl (k 2, 6, .inr (.inr (.inr (.inr (va_up (va_up (va_up (va_up (va_up (fun _ => none) 0 (some q2)) 1 (some q4)) 2 (some q6)) 3 (some q8)) 4 (some q10))))))), (q2, .inr (1, [.ref (u3 1), .int (nI 63), .int (nI 0)])), ((u3 1), .inl (k 1, 32, wd_d (fun _ => 0))), (q4, .inr (1, [.ref (u5 1), .int (nI 63), .int (nI 0)])), ((u5 1), .inl (k 1, 32, wd_d (fun _ => 0))), (q6, .inr (1, [.ref (u7 1), .int (nI 63), .int (nI 0)])), ((u7 1), .inl (k 1, 32, wd_d (fun _ => 0))), (q8, .inr (1, [.ref (u9 1), .int (nI 63), .int (nI 0)])), ((u9 1), .inl (k 1, 32, wd_d (fun _ => 0))), (q10, .inr (1, [.ref (u11 1), .int (nI 63), .int (nI 0)])), ((u11 1), .inl (k 1, 32, wd_d (fun _ => 0)))] H := hP
            have hD : va_D A [(h0, .inr (2, [.ref q1, .null, .int 0])), (q1, .inl (k 2, 6, .inr (.inr (.inr (.inr (va_up (va_up (va_up (va_up (va_up (fun _ => none) 0 (some q2)) 1 (some q4)) 2 (some q6)) 3 (some q8)) 4 (some q10))))))), (q2, .inr (1, [.ref (u3 1), .int (nI 63), .int (nI 0)])), ((u3 1), .inl (k 1, 32, wd_d (fun _ => 0))), (q4, .inr (1, [.ref (u5 1), .int (nI 63), .int (nI 0)])), ((u5 1), .inl (k 1, 32, wd_d (fun _ => 0))), (q6, .inr (1, [.ref (u7 1), .int (nI 63), .int (nI 0)])), ((u7 1), .inl (k 1, 32, wd_d (fun _ => 0))), (q8, .inr (1, [.ref (u9 1), .int (nI 63), .int (nI 0)])), ((u9 1), .inl (k 1, 32, wd_d (fun _ => 0))), (q10, .inr (1, [.ref (u11 1), .int (nI 63), .int (nI 0)])), ((u11 1), .inl (k 1, 32, wd_d (fun _ => 0)))] := hD
            refine lv_iinc (v := nI 5) (lv' := [(1, .int (nI 5)), (0, .ref h0)]) hx hb dBo_init_34 hl (k := 0) rfl (nI_1 _) (by decide) rfl (fun ls hl => ?_)
            refine lv_goto (tgt := 15) hx hb dBo_init_37 (by decide) ?_
            refine lv_iload_n hx hb dBo_init_15 rfl (lv_at hl 0 rfl) ?_
            refine lv_bipush (v := nI 6) hx hb dBo_init_16 (by decide +kernel) ?_
            refine lv_icmp_ge (tgt := 40) hx hb dBo_init_18 (by decide) (fun c18 => ?_) (fun c18 => ?_)
            · have c18 : 6 ≤ 5 := (nI_leI (a := 6) (b := 5) (by omega) (by omega)).mp (show nI 6 ≤ nI 5 from c18)
              exact absurd c18 (by decide)
            · have c18 : ¬ 6 ≤ 5 := fun q9 => c18 (show nI 6 ≤ nI 5 from (nI_leI (a := 6) (b := 5) (by omega) (by omega)).mpr q9)
              refine lv_aload_n hx hb dBo_init_21 rfl (lv_at hl 1 rfl) ?_
              refine va_get (D := (dC, dI)) (ci := 2) (v := .ref q1) (C := RBo) (T := TBo) (N := 3) hx hb hts inBo hown hK hP 0 rfl rfl 0 (by decide) (hts _ tw_129) (fun _ h9 => h9) rfl dBo_init_22 ?_
              refine lv_iload_n hx hb dBo_init_25 rfl (lv_at hl 0 rfl) ?_
              refine va_new (ci := 1) (fs := [.null, .int 0, .int 0]) (C := RPa) (T := TPa) (N := 3) hx hb hts inPa tyPa tyPa_ok hown (hts _ tw_106) (hts _ tw_108) (hts _ tw_6) hK hP hD hS hA rfl (fun j hj => by rcases (show j = 0 ∨ j = 1 ∨ j = 2 by omega) with rfl | rfl | rfl <;> rfl) (show 11 + 1 ≤ 14 by decide) (show 181 + 3 ≤ 296 by decide) dBo_init_26 (fun q12 H hP hD hS => ?_)
              have hP : va_P (dC, dI) vwCl [(h0, .inr (2, [.ref q1, .null, .int 0])), (q1, .inl (k 2, 6, .inr (.inr (.inr (.inr (va_up (va_up (va_up (va_up (va_up (fun _ => none) 0 (some q2)) 1 (some q4)) 2 (some q6)) 3 (some q8)) 4 (some q10))))))), (q2, .inr (1, [.ref (u3 1), .int (nI 63), .int (nI 0)])), ((u3 1), .inl (k 1, 32, wd_d (fun _ => 0))), (q4, .inr (1, [.ref (u5 1), .int (nI 63), .int (nI 0)])), ((u5 1), .inl (k 1, 32, wd_d (fun _ => 0))), (q6, .inr (1, [.ref (u7 1), .int (nI 63), .int (nI 0)])), ((u7 1), .inl (k 1, 32, wd_d (fun _ => 0))), (q8, .inr (1, [.ref (u9 1), .int (nI 63), .int (nI 0)])), ((u9 1), .inl (k 1, 32, wd_d (fun _ => 0))), (q10, .inr (1, [.ref (u11 1), .int (nI 63), .int (nI 0)])), ((u11 1), .inl (k 1, 32, wd_d (fun _ => 0))), (q12, .inr (1, [.null, .int 0, .int 0]))] H := hP
              have hD : va_D A [(h0, .inr (2, [.ref q1, .null, .int 0])), (q1, .inl (k 2, 6, .inr (.inr (.inr (.inr (va_up (va_up (va_up (va_up (va_up (fun _ => none) 0 (some q2)) 1 (some q4)) 2 (some q6)) 3 (some q8)) 4 (some q10))))))), (q2, .inr (1, [.ref (u3 1), .int (nI 63), .int (nI 0)])), ((u3 1), .inl (k 1, 32, wd_d (fun _ => 0))), (q4, .inr (1, [.ref (u5 1), .int (nI 63), .int (nI 0)])), ((u5 1), .inl (k 1, 32, wd_d (fun _ => 0))), (q6, .inr (1, [.ref (u7 1), .int (nI 63), .int (nI 0)])), ((u7 1), .inl (k 1, 32, wd_d (fun _ => 0))), (q8, .inr (1, [.ref (u9 1), .int (nI 63), .int (nI 0)])), ((u9 1), .inl (k 1, 32, wd_d (fun _ => 0))), (q10, .inr (1, [.ref (u11 1), .int (nI 63), .int (nI 0)])), ((u11 1), .inl (k 1, 32, wd_d (fun _ => 0))), (q12, .inr (1, [.null, .int 0, .int 0]))] := hD
              refine W.widen (k := 12) (n := 184) (by omega) (by omega) ?_
              refine lv_dup hx hb dBo_init_29 rfl ?_
              have hP : va_P (dC, dI) vwCl ([(h0, .inr (2, [.ref q1, .null, .int 0])), (q1, .inl (k 2, 6, .inr (.inr (.inr (.inr (va_up (va_up (va_up (va_up (va_up (fun _ => none) 0 (some q2)) 1 (some q4)) 2 (some q6)) 3 (some q8)) 4 (some q10))))))), (q2, .inr (1, [.ref (u3 1), .int (nI 63), .int (nI 0)])), ((u3 1), .inl (k 1, 32, wd_d (fun _ => 0))), (q4, .inr (1, [.ref (u5 1), .int (nI 63), .int (nI 0)])), ((u5 1), .inl (k 1, 32, wd_d (fun _ => 0))), (q6, .inr (1, [.ref (u7 1), .int (nI 63), .int (nI 0)])), ((u7 1), .inl (k 1, 32, wd_d (fun _ => 0))), (q8, .inr (1, [.ref (u9 1), .int (nI 63), .int (nI 0)])), ((u9 1), .inl (k 1, 32, wd_d (fun _ => 0))), (q10, .inr (1, [.ref (u11 1), .int (nI 63), .int (nI 0)])), ((u11 1), .inl (k 1, 32, wd_d (fun _ => 0)))] ++ ([(q12, .inr (1, [.null, .int 0, .int 0]))] ++ [])) H := hP
              have hD : va_D A ([(h0, .inr (2, [.ref q1, .null, .int 0])), (q1, .inl (k 2, 6, .inr (.inr (.inr (.inr (va_up (va_up (va_up (va_up (va_up (fun _ => none) 0 (some q2)) 1 (some q4)) 2 (some q6)) 3 (some q8)) 4 (some q10))))))), (q2, .inr (1, [.ref (u3 1), .int (nI 63), .int (nI 0)])), ((u3 1), .inl (k 1, 32, wd_d (fun _ => 0))), (q4, .inr (1, [.ref (u5 1), .int (nI 63), .int (nI 0)])), ((u5 1), .inl (k 1, 32, wd_d (fun _ => 0))), (q6, .inr (1, [.ref (u7 1), .int (nI 63), .int (nI 0)])), ((u7 1), .inl (k 1, 32, wd_d (fun _ => 0))), (q8, .inr (1, [.ref (u9 1), .int (nI 63), .int (nI 0)])), ((u9 1), .inl (k 1, 32, wd_d (fun _ => 0))), (q10, .inr (1, [.ref (u11 1), .int (nI 63), .int (nI 0)])), ((u11 1), .inl (k 1, 32, wd_d (fun _ => 0)))] ++ ([(q12, .inr (1, [.null, .int 0, .int 0]))] ++ [])) := hD
              refine sg_v (va_runI (As := []) (rest := [.ref q12, .int (nI 5), .ref q1]) ⟨hx, hb, hml, hown, hts⟩ (kPa_init l dC dI k _ q12) (cwI 0 hts (gw_I tw_111) rfl rfl rfl (hts _ tw_6) (hts _ tw_109) (hts _ tw_110) rfl (by decide +kernel) ⟨Nat.le_of_ble_eq_true rfl, Nat.le_of_ble_eq_true rfl⟩) ⟨ct_blind (ev := (fun _ => True)) (fun _ _ _ _ h => h), ct_now (A := A) (ev := (fun _ => True)) (fun _ _ _ => trivial) (sg_Pc hP) hK (sg_Dc hD)⟩ rfl rfl hl.1 rfl (lv_room (Nat.le_of_ble_eq_true rfl)) dBo_init_30 ⟨(show 12 + 1 ≤ 14 by decide), (show 184 + 32 ≤ 296 by decide)⟩) hP hD hS hA (fun u13 H locs hw13 hP hD hS => ?_)
              have hP : va_P (dC, dI) vwCl [(h0, .inr (2, [.ref q1, .null, .int 0])), (q1, .inl (k 2, 6, .inr (.inr (.inr (.inr (va_up (va_up (va_up (va_up (va_up (fun _ => none) 0 (some q2)) 1 (some q4)) 2 (some q6)) 3 (some q8)) 4 (some q10))))))), (q2, .inr (1, [.ref (u3 1), .int (nI 63), .int (nI 0)])), ((u3 1), .inl (k 1, 32, wd_d (fun _ => 0))), (q4, .inr (1, [.ref (u5 1), .int (nI 63), .int (nI 0)])), ((u5 1), .inl (k 1, 32, wd_d (fun _ => 0))), (q6, .inr (1, [.ref (u7 1), .int (nI 63), .int (nI 0)])), ((u7 1), .inl (k 1, 32, wd_d (fun _ => 0))), (q8, .inr (1, [.ref (u9 1), .int (nI 63), .int (nI 0)])), ((u9 1), .inl (k 1, 32, wd_d (fun _ => 0))), (q10, .inr (1, [.ref (u11 1), .int (nI 63), .int (nI 0)])), ((u11 1), .inl (k 1, 32, wd_d (fun _ => 0))), (q12, .inr (1, [.ref (u13 1), .int (nI 63), .int (nI 0)])), ((u13 1), .inl (k 1, 32, wd_d (fun _ => 0)))] H := hP
              have hD : va_D A [(h0, .inr (2, [.ref q1, .null, .int 0])), (q1, .inl (k 2, 6, .inr (.inr (.inr (.inr (va_up (va_up (va_up (va_up (va_up (fun _ => none) 0 (some q2)) 1 (some q4)) 2 (some q6)) 3 (some q8)) 4 (some q10))))))), (q2, .inr (1, [.ref (u3 1), .int (nI 63), .int (nI 0)])), ((u3 1), .inl (k 1, 32, wd_d (fun _ => 0))), (q4, .inr (1, [.ref (u5 1), .int (nI 63), .int (nI 0)])), ((u5 1), .inl (k 1, 32, wd_d (fun _ => 0))), (q6, .inr (1, [.ref (u7 1), .int (nI 63), .int (nI 0)])), ((u7 1), .inl (k 1, 32, wd_d (fun _ => 0))), (q8, .inr (1, [.ref (u9 1), .int (nI 63), .int (nI 0)])), ((u9 1), .inl (k 1, 32, wd_d (fun _ => 0))), (q10, .inr (1, [.ref (u11 1), .int (nI 63), .int (nI 0)])), ((u11 1), .inl (k 1, 32, wd_d (fun _ => 0))), (q12, .inr (1, [.ref (u13 1), .int (nI 63), .int (nI 0)])), ((u13 1), .inl (k 1, 32, wd_d (fun _ => 0)))] := hD
              refine W.widen (k := 13) (n := 216) (by omega) (by omega) ?_
              refine rw_ast_q hx hb hK hP hD hS 1 2 12 1 (r := (RPa, TPa, 3)) rfl rfl rfl rfl (by decide) (by decide) dBo_init_33 (fun H locs hP hD hS => ?_)
              have hP : va_P (dC, dI) vwCl [(h0, .inr (2, [.ref q1, .null, .int 0])), (q1, .inl (k 2, 6, .inr (.inr (.inr (.inr (va_up (va_up (va_up (va_up (va_up (va_up (fun _ => none) 0 (some q2)) 1 (some q4)) 2 (some q6)) 3 (some q8)) 4 (some q10)) 5 (some q12))))))), (q2, .inr (1, [.ref (u3 1), .int (nI 63), .int (nI 0)])), ((u3 1), .inl (k 1, 32, wd_d (fun _ => 0))), (q4, .inr (1, [.ref (u5 1), .int (nI 63), .int (nI 0)])), ((u5 1), .inl (k 1, 32, wd_d (fun _ => 0))), (q6, .inr (1, [.ref (u7 1), .int (nI 63), .int (nI 0)])), ((u7 1), .inl (k 1, 32, wd_d (fun _ => 0))), (q8, .inr (1, [.ref (u9 1), .int (nI 63), .int (nI 0)])), ((u9 1), .inl (k 1, 32, wd_d (fun _ => 0))), (q10, .inr (1, [.ref (u11 1), .int (nI 63), .int (nI 0)])), ((u11 1), .inl (k 1, 32, wd_d (fun _ => 0))), (q12, .inr (1, [.ref (u13 1), .int (nI 63), .int (nI 0)])), ((u13 1), .inl (k 1, 32, wd_d (fun _ => 0)))] H := hP
              have hD : va_D A [(h0, .inr (2, [.ref q1, .null, .int 0])), (q1, .inl (k 2, 6, .inr (.inr (.inr (.inr (va_up (va_up (va_up (va_up (va_up (va_up (fun _ => none) 0 (some q2)) 1 (some q4)) 2 (some q6)) 3 (some q8)) 4 (some q10)) 5 (some q12))))))), (q2, .inr (1, [.ref (u3 1), .int (nI 63), .int (nI 0)])), ((u3 1), .inl (k 1, 32, wd_d (fun _ => 0))), (q4, .inr (1, [.ref (u5 1), .int (nI 63), .int (nI 0)])), ((u5 1), .inl (k 1, 32, wd_d (fun _ => 0))), (q6, .inr (1, [.ref (u7 1), .int (nI 63), .int (nI 0)])), ((u7 1), .inl (k 1, 32, wd_d (fun _ => 0))), (q8, .inr (1, [.ref (u9 1), .int (nI 63), .int (nI 0)])), ((u9 1), .inl (k 1, 32, wd_d (fun _ => 0))), (q10, .inr (1, [.ref (u11 1), .int (nI 63), .int (nI 0)])), ((u11 1), .inl (k 1, 32, wd_d (fun _ => 0))), (q12, .inr (1, [.ref (u13 1), .int (nI 63), .int (nI 0)])), ((u13 1), .inl (k 1, 32, wd_d (fun _ => 0)))] := hD
              refine lv_iinc (v := nI 6) (lv' := [(1, .int (nI 6)), (0, .ref h0)]) hx hb dBo_init_34 hl (k := 0) rfl (nI_1 _) (by decide) rfl (fun ls hl => ?_)
              refine lv_goto (tgt := 15) hx hb dBo_init_37 (by decide) ?_
              refine lv_iload_n hx hb dBo_init_15 rfl (lv_at hl 0 rfl) ?_
              refine lv_bipush (v := nI 6) hx hb dBo_init_16 (by decide +kernel) ?_
              refine lv_icmp_ge (tgt := 40) hx hb dBo_init_18 (by decide) (fun c18 => ?_) (fun c18 => ?_)
              · have c18 : 6 ≤ 6 := (nI_leI (a := 6) (b := 6) (by omega) (by omega)).mp (show nI 6 ≤ nI 6 from c18)
                refine lv_aload_n hx hb dBo_init_40 rfl (lv_at hl 1 rfl) ?_
                refine lv_bipush (v := nI 80) hx hb dBo_init_41 (by decide +kernel) ?_
                refine rn_newa (atype := .double) (a0 := (80, wd_d (fun _ => 0))) (N' := 80) (kA := k 1) hx hb (hts _ tw_67) (ty := .double) rfl hK hP hD hS hA 1 rfl (fun _ h9 => h9) (fun _ => rfl) (by decide +kernel) (by decide +kernel) (by decide) (show 13 + 1 ≤ 14 by decide) (show 216 + 80 ≤ 296 by decide) dBo_init_43 (fun q14 H hP hD hS => ?_)
                have hP : va_P (dC, dI) vwCl [(h0, .inr (2, [.ref q1, .null, .int 0])), (q1, .inl (k 2, 6, .inr (.inr (.inr (.inr (va_up (va_up (va_up (va_up (va_up (va_up (fun _ => none) 0 (some q2)) 1 (some q4)) 2 (some q6)) 3 (some q8)) 4 (some q10)) 5 (some q12))))))), (q2, .inr (1, [.ref (u3 1), .int (nI 63), .int (nI 0)])), ((u3 1), .inl (k 1, 32, wd_d (fun _ => 0))), (q4, .inr (1, [.ref (u5 1), .int (nI 63), .int (nI 0)])), ((u5 1), .inl (k 1, 32, wd_d (fun _ => 0))), (q6, .inr (1, [.ref (u7 1), .int (nI 63), .int (nI 0)])), ((u7 1), .inl (k 1, 32, wd_d (fun _ => 0))), (q8, .inr (1, [.ref (u9 1), .int (nI 63), .int (nI 0)])), ((u9 1), .inl (k 1, 32, wd_d (fun _ => 0))), (q10, .inr (1, [.ref (u11 1), .int (nI 63), .int (nI 0)])), ((u11 1), .inl (k 1, 32, wd_d (fun _ => 0))), (q12, .inr (1, [.ref (u13 1), .int (nI 63), .int (nI 0)])), ((u13 1), .inl (k 1, 32, wd_d (fun _ => 0))), (q14, .inl (k 1, 80, wd_d (fun _ => 0)))] H := hP
                have hD : va_D A [(h0, .inr (2, [.ref q1, .null, .int 0])), (q1, .inl (k 2, 6, .inr (.inr (.inr (.inr (va_up (va_up (va_up (va_up (va_up (va_up (fun _ => none) 0 (some q2)) 1 (some q4)) 2 (some q6)) 3 (some q8)) 4 (some q10)) 5 (some q12))))))), (q2, .inr (1, [.ref (u3 1), .int (nI 63), .int (nI 0)])), ((u3 1), .inl (k 1, 32, wd_d (fun _ => 0))), (q4, .inr (1, [.ref (u5 1), .int (nI 63), .int (nI 0)])), ((u5 1), .inl (k 1, 32, wd_d (fun _ => 0))), (q6, .inr (1, [.ref (u7 1), .int (nI 63), .int (nI 0)])), ((u7 1), .inl (k 1, 32, wd_d (fun _ => 0))), (q8, .inr (1, [.ref (u9 1), .int (nI 63), .int (nI 0)])), ((u9 1), .inl (k 1, 32, wd_d (fun _ => 0))), (q10, .inr (1, [.ref (u11 1), .int (nI 63), .int (nI 0)])), ((u11 1), .inl (k 1, 32, wd_d (fun _ => 0))), (q12, .inr (1, [.ref (u13 1), .int (nI 63), .int (nI 0)])), ((u13 1), .inl (k 1, 32, wd_d (fun _ => 0))), (q14, .inl (k 1, 80, wd_d (fun _ => 0)))] := hD
                refine W.widen (k := 14) (n := 296) (by omega) (by omega) ?_
                refine va_putF (D := (dC, dI)) (ci := 2) (fs := [.ref q1, .null, .int 0]) (v := .ref q14) (ty := .array .double) (C := RBo) (T := TBo) (N := 3) hx hb hts inBo tyBo tyBo_ok nmBo hown hK hP hD hS 0 rfl rfl 1 (by decide) (hts _ tw_132) (fun _ h9 => h9) rfl hin rfl (by decide +kernel) rfl rfl (Nat.le_of_ble_eq_true rfl) dBo_init_45 (fun H locs hP hD hS => ?_)
                have hP : va_P (dC, dI) vwCl [(h0, .inr (2, [.ref q1, .ref q14, .int 0])), (q1, .inl (k 2, 6, .inr (.inr (.inr (.inr (va_up (va_up (va_up (va_up (va_up (va_up (fun _ => none) 0 (some q2)) 1 (some q4)) 2 (some q6)) 3 (some q8)) 4 (some q10)) 5 (some q12))))))), (q2, .inr (1, [.ref (u3 1), .int (nI 63), .int (nI 0)])), ((u3 1), .inl (k 1, 32, wd_d (fun _ => 0))), (q4, .inr (1, [.ref (u5 1), .int (nI 63), .int (nI 0)])), ((u5 1), .inl (k 1, 32, wd_d (fun _ => 0))), (q6, .inr (1, [.ref (u7 1), .int (nI 63), .int (nI 0)])), ((u7 1), .inl (k 1, 32, wd_d (fun _ => 0))), (q8, .inr (1, [.ref (u9 1), .int (nI 63), .int (nI 0)])), ((u9 1), .inl (k 1, 32, wd_d (fun _ => 0))), (q10, .inr (1, [.ref (u11 1), .int (nI 63), .int (nI 0)])), ((u11 1), .inl (k 1, 32, wd_d (fun _ => 0))), (q12, .inr (1, [.ref (u13 1), .int (nI 63), .int (nI 0)])), ((u13 1), .inl (k 1, 32, wd_d (fun _ => 0))), (q14, .inl (k 1, 80, wd_d (fun _ => 0)))] H := hP
                have hD : va_D A [(h0, .inr (2, [.ref q1, .ref q14, .int 0])), (q1, .inl (k 2, 6, .inr (.inr (.inr (.inr (va_up (va_up (va_up (va_up (va_up (va_up (fun _ => none) 0 (some q2)) 1 (some q4)) 2 (some q6)) 3 (some q8)) 4 (some q10)) 5 (some q12))))))), (q2, .inr (1, [.ref (u3 1), .int (nI 63), .int (nI 0)])), ((u3 1), .inl (k 1, 32, wd_d (fun _ => 0))), (q4, .inr (1, [.ref (u5 1), .int (nI 63), .int (nI 0)])), ((u5 1), .inl (k 1, 32, wd_d (fun _ => 0))), (q6, .inr (1, [.ref (u7 1), .int (nI 63), .int (nI 0)])), ((u7 1), .inl (k 1, 32, wd_d (fun _ => 0))), (q8, .inr (1, [.ref (u9 1), .int (nI 63), .int (nI 0)])), ((u9 1), .inl (k 1, 32, wd_d (fun _ => 0))), (q10, .inr (1, [.ref (u11 1), .int (nI 63), .int (nI 0)])), ((u11 1), .inl (k 1, 32, wd_d (fun _ => 0))), (q12, .inr (1, [.ref (u13 1), .int (nI 63), .int (nI 0)])), ((u13 1), .inl (k 1, 32, wd_d (fun _ => 0))), (q14, .inl (k 1, 80, wd_d (fun _ => 0)))] := hD
                refine lv_aload_n hx hb dBo_init_48 rfl (lv_at hl 1 rfl) ?_
                refine lv_iconst (v := nI 0) hx hb dBo_init_49 (by decide +kernel) ?_
                refine va_put (D := (dC, dI)) (ci := 2) (fs := [.ref q1, .ref q14, .int 0]) (v := .int (nI 0)) (ty := .int) (C := RBo) (T := TBo) (N := 3) hx hb hts inBo tyBo tyBo_ok nmBo hown hK hP hD hS 0 rfl rfl 2 (by decide) (hts _ tw_133) (fun _ h9 => h9) rfl (by decide +kernel) rfl rfl (Nat.le_of_ble_eq_true rfl) dBo_init_50 (fun H locs hP hD hS => ?_)
                have hP : va_P (dC, dI) vwCl [(h0, .inr (2, [.ref q1, .ref q14, .int (nI 0)])), (q1, .inl (k 2, 6, .inr (.inr (.inr (.inr (va_up (va_up (va_up (va_up (va_up (va_up (fun _ => none) 0 (some q2)) 1 (some q4)) 2 (some q6)) 3 (some q8)) 4 (some q10)) 5 (some q12))))))), (q2, .inr (1, [.ref (u3 1), .int (nI 63), .int (nI 0)])), ((u3 1), .inl (k 1, 32, wd_d (fun _ => 0))), (q4, .inr (1, [.ref (u5 1), .int (nI 63), .int (nI 0)])), ((u5 1), .inl (k 1, 32, wd_d (fun _ => 0))), (q6, .inr (1, [.ref (u7 1), .int (nI 63), .int (nI 0)])), ((u7 1), .inl (k 1, 32, wd_d (fun _ => 0))), (q8, .inr (1, [.ref (u9 1), .int (nI 63), .int (nI 0)])), ((u9 1), .inl (k 1, 32, wd_d (fun _ => 0))), (q10, .inr (1, [.ref (u11 1), .int (nI 63), .int (nI 0)])), ((u11 1), .inl (k 1, 32, wd_d (fun _ => 0))), (q12, .inr (1, [.ref (u13 1), .int (nI 63), .int (nI 0)])), ((u13 1), .inl (k 1, 32, wd_d (fun _ => 0))), (q14, .inl (k 1, 80, wd_d (fun _ => 0)))] H := hP
                have hD : va_D A [(h0, .inr (2, [.ref q1, .ref q14, .int (nI 0)])), (q1, .inl (k 2, 6, .inr (.inr (.inr (.inr (va_up (va_up (va_up (va_up (va_up (va_up (fun _ => none) 0 (some q2)) 1 (some q4)) 2 (some q6)) 3 (some q8)) 4 (some q10)) 5 (some q12))))))), (q2, .inr (1, [.ref (u3 1), .int (nI 63), .int (nI 0)])), ((u3 1), .inl (k 1, 32, wd_d (fun _ => 0))), (q4, .inr (1, [.ref (u5 1), .int (nI 63), .int (nI 0)])), ((u5 1), .inl (k 1, 32, wd_d (fun _ => 0))), (q6, .inr (1, [.ref (u7 1), .int (nI 63), .int (nI 0)])), ((u7 1), .inl (k 1, 32, wd_d (fun _ => 0))), (q8, .inr (1, [.ref (u9 1), .int (nI 63), .int (nI 0)])), ((u9 1), .inl (k 1, 32, wd_d (fun _ => 0))), (q10, .inr (1, [.ref (u11 1), .int (nI 63), .int (nI 0)])), ((u11 1), .inl (k 1, 32, wd_d (fun _ => 0))), (q12, .inr (1, [.ref (u13 1), .int (nI 63), .int (nI 0)])), ((u13 1), .inl (k 1, 32, wd_d (fun _ => 0))), (q14, .inl (k 1, 80, wd_d (fun _ => 0)))] := hD
                have hf : va_up (va_up (va_up (va_up (va_up (va_up (fun _ => none) 0 (some q2)) 1 (some q4)) 2 (some q6)) 3 (some q8)) 4 (some q10)) 5 (some q12) = (fun j => if j < 6 then some (([h0, q1, q2, (u3 1), q4, (u5 1), q6, (u7 1), q8, (u9 1), q10, (u11 1), q12, (u13 1), q14] : List Nat).getD (2 + 2 * j) 0) else none) := by
                  funext j
                  by_cases hj : j < 6
                  · rw [if_pos hj]
                    rcases (show j = 0 ∨ j = 1 ∨ j = 2 ∨ j = 3 ∨ j = 4 ∨ j = 5 by omega) with rfl | rfl | rfl | rfl | rfl | rfl <;> rfl
                  · rw [if_neg hj]
                    simp only [va_up]
                    rw [if_neg (by omega)]; rw [if_neg (by omega)]; rw [if_neg (by omega)]; rw [if_neg (by omega)]; rw [if_neg (by omega)]; rw [if_neg (by omega)]
                rw [hf] at hP hD
                exact ct_rv hx hb hr hlocks (fun n => ([h0, q1, q2, (u3 1), q4, (u5 1), q6, (u7 1), q8, (u9 1), q10, (u11 1), q12, (u13 1), q14] : List Nat).getD n 0) trivial hP hD hS (Nat.le_refl _) (Nat.le_refl _) dBo_init_53
              · have c18 : ¬ 6 ≤ 6 := fun q9 => c18 (show nI 6 ≤ nI 6 from (nI_leI (a := 6) (b := 6) (by omega) (by omega)).mpr q9)
                exact absurd (by decide) c18
/-- a list of words as it grows -/
def wl_ (k : Nat → ClassId) (u : Nat → Nat) (h0 q1 j : Nat) : va_W := (h0, .inr (6, [.ref q1, .int 0])) :: (q1, .inl (k 3, 19, .inr (.inr (.inr (.inr (fun i => if i < j then some (u i) else none)))))) :: (List.range j).map (fun i => (u i, .inr (5, [.int (nI 0), .int (nI 1), .int (-1), .int (nI 63), .double 0])))
theorem wl_q (k : Nat → ClassId) (u : Nat → Nat) (h0 q1 j q : Nat) (x : va_E) : (wl_ k u h0 q1 j ++ ([(q, x)] ++ []))[2 + j]? = some (q, x) := by
  have h : (wl_ k u h0 q1 j).length = 2 + j := by
    show ((List.range j).map _).length + 1 + 1 = 2 + j
    rw [List.length_map, List.length_range]
    omega
  rw [List.getElem?_append_right (by omega), h, Nat.sub_self]
  rfl
theorem wl_s (k : Nat → ClassId) (u : Nat → Nat) (h0 q1 j q : Nat) : (wl_ k u h0 q1 j ++ (([(q, .inr (5, [.int (nI 0), .int (nI 1), .int (-1), .int (nI 63), .double 0]))] : va_W) ++ ([] : va_W))).set 1 (q1, .inl (k 3, 19, .inr (.inr (.inr (.inr (va_up (fun i => if i < j then some (u i) else none) j (some q))))))) = wl_ k (fun i => if i = j then q else u i) h0 q1 (j + 1) := by
  have h1 : va_up (fun i => if i < j then some (u i) else none) j (some q) = fun i => if i < j + 1 then some (if i = j then q else u i) else none := by
    funext i
    unfold va_up
    by_cases e : i = j
    · rw [if_pos e, if_pos (by omega), if_pos e]
    · rw [if_neg e]
      dsimp only
      by_cases c : i < j
      · rw [if_pos c, if_pos (by omega), if_neg e]
      · rw [if_neg c, if_neg (by omega)]
  have h2 : (List.range (j + 1)).map (fun i => ((if i = j then q else u i : Nat), (.inr (5, [.int (nI 0), .int (nI 1), .int (-1), .int (nI 63), .double 0]) : va_E))) = (List.range j).map (fun i => (u i, (.inr (5, [.int (nI 0), .int (nI 1), .int (-1), .int (nI 63), .double 0]) : va_E))) ++ [(q, .inr (5, [.int (nI 0), .int (nI 1), .int (-1), .int (nI 63), .double 0]))] := by
    rw [List.range_succ, List.map_append]
    congr 1
    · apply List.map_congr_left
      intro i hi
      have := List.mem_range.mp hi
      rw [if_neg (by omega)]
    · show [((if j = j then q else u j : Nat), _)] = _
      rw [if_pos rfl]
  rw [h1]
  unfold wl_
  rw [h2]
  rfl
set_option maxHeartbeats 4000000 in
set_option maxRecDepth 100000 in
theorem kLi_init (l : Launch) (dC : Nat → ClassId) (dI : Nat → Nat → Nat) (k : Nat → ClassId) (sz : Nat) (h0 : Nat) : Met l yLi_init wLi_init ({ frames := 2, cells := 20, slots := 114, locals := 41 }) (va_Pc [.ref h0] (ct_pre (dC, dI) (de_ty k) ev_A ([(h0, .inr (6, [.null, .int 0]))]) sz)) (va_Qv (fun (_ : Nat → Nat) => True) (fun u t => ct_at (dC, dI) (va_A ([(h0, .inr (6, [.null, .int 0]))]) sz) ((fun (u : Nat → Nat) => [(h0, .inr (6, [.ref (u 1), .int (nI 0)])), ((u 1), .inl (k 3, 19, .inr (.inr (.inr (.inr (fun j => if j < 19 then some (u (2 + j)) else none)))))), ((u 2), .inr (5, [.int (nI 0), .int (nI 1), .int (-1), .int (nI 63), .double 0])), ((u 3), .inr (5, [.int (nI 0), .int (nI 1), .int (-1), .int (nI 63), .double 0])), ((u 4), .inr (5, [.int (nI 0), .int (nI 1), .int (-1), .int (nI 63), .double 0])), ((u 5), .inr (5, [.int (nI 0), .int (nI 1), .int (-1), .int (nI 63), .double 0])), ((u 6), .inr (5, [.int (nI 0), .int (nI 1), .int (-1), .int (nI 63), .double 0])), ((u 7), .inr (5, [.int (nI 0), .int (nI 1), .int (-1), .int (nI 63), .double 0])), ((u 8), .inr (5, [.int (nI 0), .int (nI 1), .int (-1), .int (nI 63), .double 0])), ((u 9), .inr (5, [.int (nI 0), .int (nI 1), .int (-1), .int (nI 63), .double 0])), ((u 10), .inr (5, [.int (nI 0), .int (nI 1), .int (-1), .int (nI 63), .double 0])), ((u 11), .inr (5, [.int (nI 0), .int (nI 1), .int (-1), .int (nI 63), .double 0])), ((u 12), .inr (5, [.int (nI 0), .int (nI 1), .int (-1), .int (nI 63), .double 0])), ((u 13), .inr (5, [.int (nI 0), .int (nI 1), .int (-1), .int (nI 63), .double 0])), ((u 14), .inr (5, [.int (nI 0), .int (nI 1), .int (-1), .int (nI 63), .double 0])), ((u 15), .inr (5, [.int (nI 0), .int (nI 1), .int (-1), .int (nI 63), .double 0])), ((u 16), .inr (5, [.int (nI 0), .int (nI 1), .int (-1), .int (nI 63), .double 0])), ((u 17), .inr (5, [.int (nI 0), .int (nI 1), .int (-1), .int (nI 63), .double 0])), ((u 18), .inr (5, [.int (nI 0), .int (nI 1), .int (-1), .int (nI 63), .double 0])), ((u 19), .inr (5, [.int (nI 0), .int (nI 1), .int (-1), .int (nI 63), .double 0])), ((u 20), .inr (5, [.int (nI 0), .int (nI 1), .int (-1), .int (nI 63), .double 0]))]) u) t) (va_A ([(h0, .inr (6, [.null, .int 0]))]) sz)) 20 114 (va_A ([(h0, .inr (6, [.null, .int 0]))]) sz) := by
  refine Met.ofW (cc := cLi_init) (maxL := 2) (ret := none) (by decide) rfl ?_
  intro p e s m args below meth c s₁ B hml hv
  obtain ⟨rfl, hsz, hP, hK, hD0, hE⟩ := hv
  have hx := B.exec
  have hb := B.bytes
  have hr := B.returns
  have hts : ∀ w ∈ W0, w.before [.ref h0].toArray s = true := fun w h => atoms_spec (ws := wLi_init) B.pre w (List.mem_cons_of_mem _ h)
  have hown : s.vm.findClass RLi = some m.cls := findClass_of_methodNamed B.named
  have hlocks := B.notSynchronized
  have hin : meth.name = "<init>" := (name_of_methodNamed B.named B.method).1
  subst hsz
  have hD := hD0.self (sz := s.heap.size)
  generalize hAe : va_A ([(h0, .inr (6, [.null, .int 0]))]) s.heap.size = A at hD ⊢
  have hA : ∀ q : Nat, s.heap.size ≤ q → A q := fun q h => by rw [← hAe]; exact Or.inr h
  have hS : va_S A s.heap s.heap [] := va_S.rf
  have hl := lv_entry ([.ref h0]) (n := 2) (Nat.le_of_ble_eq_true rfl)
  rw [lg_entry_eq]
  generalize (lg_sl ([.ref h0]) ++ List.replicate (2 - (lg_sl ([.ref h0])).length) Slot.unset).toArray = ls at hl ⊢
  have hl : lv_has ls 2 [(0, .ref h0)] := hl
  refine lv_aload_n hx hb dLi_init_0 rfl (lv_at hl 0 rfl) ?_
  refine W.objInit hx hb hown (hts _ tw_148) (hts _ tw_25) (hts _ tw_26) rfl (by rw [hml]; exact hl.1) rfl dLi_init_1 (Nat.le_of_ble_eq_true rfl) (Nat.le_of_ble_eq_true rfl) ?_
  refine W.eq (g2 := F0 m 4 ls []) rfl ?_
  refine lv_aload_n hx hb dLi_init_4 rfl (lv_at hl 0 rfl) ?_
  refine lv_bipush (v := nI 19) hx hb dLi_init_5 (by decide +kernel) ?_
  refine rn_newq (N' := 19) (kA := k 3) hx hb hown (hts _ tw_149) hE.2 hK hP hD hS hA 3 rfl (by decide +kernel) (by decide +kernel) (by decide) (show 0 + 1 ≤ 20 by decide) (show 0 + 19 ≤ 114 by decide) dLi_init_7 (fun q1 H hP hD hS => ?_)
  have hP : va_P (dC, dI) vwCl [(h0, .inr (6, [.null, .int 0])), (q1, .inl (k 3, 19, .inr (.inr (.inr (.inr (fun _ => none))))))] H := hP
  have hD : va_D A [(h0, .inr (6, [.null, .int 0])), (q1, .inl (k 3, 19, .inr (.inr (.inr (.inr (fun _ => none))))))] := hD
  refine W.widen (k := 1) (n := 19) (by omega) (by omega) ?_
  refine va_putF (D := (dC, dI)) (ci := 6) (fs := [.null, .int 0]) (v := .ref q1) (ty := .array (.object "HearingDesk$Word")) (C := RLi) (T := TLi) (N := 2) hx hb hts inLi tyLi tyLi_ok nmLi hown hK hP hD hS 0 rfl rfl 0 (by decide) (hts _ tw_181) (fun _ h9 => h9) rfl hin rfl (by decide +kernel) rfl rfl (Nat.le_of_ble_eq_true rfl) dLi_init_10 (fun H locs hP hD hS => ?_)
  have hP : va_P (dC, dI) vwCl [(h0, .inr (6, [.ref q1, .int 0])), (q1, .inl (k 3, 19, .inr (.inr (.inr (.inr (fun _ => none))))))] H := hP
  have hD : va_D A [(h0, .inr (6, [.ref q1, .int 0])), (q1, .inl (k 3, 19, .inr (.inr (.inr (.inr (fun _ => none))))))] := hD
  refine lv_iconst (v := nI 0) hx hb dLi_init_13 (by decide +kernel) ?_
  refine lv_istore_n (lv' := [(1, .int (nI 0)), (0, .ref h0)]) hx hb dLi_init_14 rfl hl (by decide) rfl (fun ls hl => ?_)
  refine lp_q (fun Q9 hQ9 => ?_)
  have L15 : ∀ (n j : Nat) (u : Nat → Nat), 19 - j < n → j ≤ 19 → ∀ (H : Heap) (locs : List Loc), va_P (dC, dI) vwCl (wl_ k u h0 q1 j) H → va_D A (wl_ k u h0 q1 j) → va_S A s.heap H locs → ∀ ls : Array Slot, lv_has ls 2 [(1, .int (nI j)), (0, .ref h0)] → W p l e (headSpec wLi_init ({ frames := 2, cells := 20, slots := 114, locals := 41 })).room s m [.ref h0].toArray below meth c H locs (1 + j) (19 + 5 * j) Q9 (F0 m 15 ls []) := by
    intro n
    induction n with
    | zero => intro j u hm; exact absurd hm (Nat.not_lt_zero _)
    | succ n ih =>
      intro j u hm hj H locs hP hD hS ls hl
      refine lv_iload_n hx hb dLi_init_15 rfl (lv_at hl 0 rfl) ?_
      refine lv_bipush (v := nI 19) hx hb dLi_init_16 (by decide +kernel) ?_
      refine lv_icmp_ge (tgt := 40) hx hb dLi_init_18 (by decide) (fun c18 => ?_) (fun c18 => ?_)
      · have c18 : 19 ≤ j := (nI_leI (a := 19) (b := j) (by omega) (by omega)).mp (show nI 19 ≤ nI j from c18)
        obtain rfl : j = 19 := by omega
        refine lv_aload_n hx hb dLi_init_40 rfl (lv_at hl 1 rfl) ?_
        refine lv_iconst (v := nI 0) hx hb dLi_init_41 (by decide +kernel) ?_
        refine va_put (D := (dC, dI)) (ci := 6) (fs := [.ref q1, .int 0]) (v := .int (nI 0)) (ty := .int) (C := RLi) (T := TLi) (N := 2) hx hb hts inLi tyLi tyLi_ok nmLi hown hK hP hD hS 0 rfl rfl 1 (by decide) (hts _ tw_183) (fun _ h9 => h9) rfl (by decide +kernel) rfl rfl (Nat.le_of_ble_eq_true rfl) dLi_init_42 (fun H locs hP hD hS => ?_)
        have hf : (fun i => if i < 19 then some (u i) else none) = fun j => if j < 19 then some ((fun n => if n = 1 then q1 else u (n - 2)) (2 + j)) else none := by
          funext i
          by_cases c : i < 19
          · rw [if_pos c, if_pos c]
            dsimp only
            rw [if_neg (by omega), show 2 + i - 2 = i by omega]
          · rw [if_neg c, if_neg c]
        have hP : va_P (dC, dI) vwCl ((h0, .inr (6, [.ref q1, .int (nI 0)])) :: (q1, .inl (k 3, 19, .inr (.inr (.inr (.inr (fun i => if i < 19 then some (u i) else none)))))) :: (List.range 19).map (fun i => (u i, .inr (5, [.int (nI 0), .int (nI 1), .int (-1), .int (nI 63), .double 0])))) H := hP
        have hD : va_D A ((h0, .inr (6, [.ref q1, .int (nI 0)])) :: (q1, .inl (k 3, 19, .inr (.inr (.inr (.inr (fun i => if i < 19 then some (u i) else none)))))) :: (List.range 19).map (fun i => (u i, .inr (5, [.int (nI 0), .int (nI 1), .int (-1), .int (nI 63), .double 0])))) := hD
        rw [hf] at hP hD
        rw [hQ9]
        exact ct_rv hx hb hr hlocks (fun n => if n = 1 then q1 else u (n - 2)) trivial hP hD hS (Nat.le_refl _) (Nat.le_refl _) dLi_init_45
      · have c18 : ¬ 19 ≤ j := fun q9 => c18 (show nI 19 ≤ nI j from (nI_leI (a := 19) (b := j) (by omega) (by omega)).mpr q9)
        refine lv_aload_n hx hb dLi_init_21 rfl (lv_at hl 1 rfl) ?_
        refine va_get (D := (dC, dI)) (ci := 6) (v := .ref q1) (C := RLi) (T := TLi) (N := 2) hx hb hts inLi hown hK hP 0 rfl rfl 0 (by decide) (hts _ tw_181) (fun _ h9 => h9) rfl dLi_init_22 ?_
        refine lv_iload_n hx hb dLi_init_25 rfl (lv_at hl 0 rfl) ?_
        refine va_new (ci := 5) (fs := [.int 0, .int 0, .int 0, .int 0, .double 0]) (C := RWo) (T := TWo) (N := 5) hx hb hts inWo tyWo tyWo_ok hown (hts _ tw_149) (hts _ tw_151) (hts _ tw_8) hK hP hD hS hA rfl (fun z hz => by rcases (show z = 0 ∨ z = 1 ∨ z = 2 ∨ z = 3 ∨ z = 4 by omega) with rfl | rfl | rfl | rfl | rfl <;> rfl) (show 1 + j + 1 ≤ 20 by omega) (show 19 + 5 * j + 5 ≤ 114 by omega) dLi_init_26 (fun q H hP hD hS => ?_)
        refine W.widen (k := 1 + j + 1) (n := 19 + 5 * j + 5) (by omega) (by omega) ?_
        refine lv_dup hx hb dLi_init_29 rfl ?_
        have hP : va_P (dC, dI) vwCl (wl_ k u h0 q1 j ++ ([(q, .inr (5, [.int 0, .int 0, .int 0, .int 0, .double 0]))] ++ [])) H := hP
        have hD : va_D A (wl_ k u h0 q1 j ++ ([(q, .inr (5, [.int 0, .int 0, .int 0, .int 0, .double 0]))] ++ [])) := hD
        refine sg_v (va_runI (As := []) (rest := [.ref q, .int (nI j), .ref q1]) ⟨hx, hb, hml, hown, hts⟩ (kWo_init l dC dI k _ q) (cwI 0 hts (gw_I tw_154) rfl rfl rfl (hts _ tw_8) (hts _ tw_152) (hts _ tw_153) rfl (by decide +kernel) ⟨Nat.le_of_ble_eq_true rfl, Nat.le_of_ble_eq_true rfl⟩) ⟨ct_blind (ev := (fun _ => True)) (fun _ _ _ _ h => h), ct_now (A := A) (ev := (fun _ => True)) (fun _ _ _ => trivial) (sg_Pc hP) hK (sg_Dc hD)⟩ rfl rfl hl.1 rfl (lv_room (Nat.le_of_ble_eq_true rfl)) dLi_init_30 ⟨by show 1 + j + 1 + 0 ≤ 20; omega, by show 19 + 5 * j + 5 + 0 ≤ 114; omega⟩) hP hD hS hA (fun u3 H locs hw3 hP hD hS => ?_)
        have hP : va_P (dC, dI) vwCl (wl_ k u h0 q1 j ++ ([(q, .inr (5, [.int (nI 0), .int (nI 1), .int (-1), .int (nI 63), .double 0]))] ++ [])) H := hP
        have hD : va_D A (wl_ k u h0 q1 j ++ ([(q, .inr (5, [.int (nI 0), .int (nI 1), .int (-1), .int (nI 63), .double 0]))] ++ [])) := hD
        refine rw_ast_q hx hb hK hP hD hS 1 3 (2 + j) 5 (r := (RWo, TWo, 5)) rfl rfl (wl_q _ _ _ _ _ _ _) rfl (by omega) (by decide) dLi_init_33 (fun H locs hP hD hS => ?_)
        rw [wl_s] at hP hD
        refine lv_iinc (v := nI (j + 1)) (lv' := [(1, .int (nI (j + 1))), (0, .ref h0)]) hx hb dLi_init_34 hl (k := 0) rfl (nI_1 _) (by decide) rfl (fun ls hl => ?_)
        refine lv_goto (tgt := 15) hx hb dLi_init_37 (by decide) ?_
        refine W.widen (k := 1 + (j + 1)) (n := 19 + 5 * (j + 1)) (by omega) (by omega) ?_
        exact ih (j + 1) _ (by omega) (by omega) H locs hP hD hS ls hl
  refine W.widen (k := 1 + 0) (n := 19 + 5 * 0) (by omega) (by omega) ?_
  have hz : (fun _ : Nat => (none : Option Nat)) = fun i => if i < 0 then some ((fun _ => 0 : Nat → Nat) i) else none := funext (fun i => (if_neg (Nat.not_lt_zero i)).symm)
  rw [hz] at hP hD
  exact L15 20 0 (fun _ => 0) (by omega) (by omega) _ _ hP hD hS ls hl
