set_option maxHeartbeats 4000000 in
set_option maxRecDepth 100000 in
theorem kMo_learn (l : Launch) (dC : Nat → ClassId) (dI : Nat → Nat → Nat) (k : Nat → ClassId) (b : Nat → Nat) (I : Nat → Nat → Int32) (D : Nat → Nat → UInt64) (sz : Nat) (le f9 n9 : Int32) (ns : Nat) (hn : ns ≤ 320) (h3 : I 0 3 = nI ns) (hsm : ∀ i, i < ns → fb_ 1057 (D 1 i)) (hc : ∀ j, j < 32 → D 7 j = hd_C j) (hsn : ∀ j, j < 32 → D 8 j = hd_S j) (np : Nat) (hnp : np ≤ 6) (h5 : I 0 5 = nI np) : Met l yMo_learn wMo_learn ({ frames := 3, cells := 0, slots := 0, locals := 80 }) (va_Pc [.ref (b 0), .int le, .int f9, .int n9] (ct_pre (dC, dI) (mo_ty k) (fun _ => True) (wm k b I D) sz)) (va_Qi (fun r (u : (Nat → Nat → Int32) × (Nat → UInt64)) => ((¬ ((∃ q, 97 ≤ q ∧ q ≤ 122 ∧ le = nI q) ∧ ∃ q, 1 ≤ q ∧ q ≤ 8 ∧ n9 = nI q)) ∧ u = (ui (ui I 0 0 (nI 0)) 0 0 (nI 1), D 2)) ∨ ((∃ q, 97 ≤ q ∧ q ≤ 122 ∧ le = nI q) ∧ ∃ q, 1 ≤ q ∧ q ≤ 8 ∧ n9 = nI q ∧ ((((¬ ∃ f, f + q ≤ hd_nf ns ∧ f9 = nI f) ∨ np = 6) ∧ u = (ui (ui I 0 0 (nI 0)) 0 0 (nI 2), D 2)) ∨ (∃ f, f + q ≤ hd_nf ns ∧ f9 = nI f ∧ np < 6 ∧ r = nI (np + 1) ∧ u.1 = ui (ui (ui (ui I 0 0 (nI 0)) 2 np le) 3 np (nI q)) 0 5 (nI (np + 1)) ∧ (∀ z, z < 4 * q → u.2 (32 * np + z) = hw_lv (D 1) f z) ∧ ∀ z, z < 32 * np → u.2 z = D 2 z)))) (fun u t => ct_at (dC, dI) (va_A (wm k b I D) sz) ((fun u => wm k b u.1 (us D 2 u.2)) u) t) (va_A (wm k b I D) sz)) 0 0 (va_A (wm k b I D) sz) := by
  refine Met.ofW (cc := cMo_learn) (maxL := 6) (ret := (some .int)) (by decide) rfl ?_
  intro p e s m args below meth c s₁ B hml hv
  obtain ⟨rfl, hsz, hP, hK, hD0, hE⟩ := hv
  have hx := B.exec
  have hb := B.bytes
  have hr := B.returns
  have hts : ∀ w ∈ W0, w.before [.ref (b 0), .int le, .int f9, .int n9].toArray s = true := fun w h => atoms_spec (ws := wMo_learn) B.pre w (List.mem_cons_of_mem _ h)
  have hown : s.vm.findClass RMo = some m.cls := findClass_of_methodNamed B.named
  have hlocks := B.notSynchronized
  subst hsz
  have hD := hD0.self (sz := s.heap.size)
  generalize hAe : va_A (wm k b I D) s.heap.size = A at hD ⊢
  have hA : ∀ q : Nat, s.heap.size ≤ q → A q := fun q h => by rw [← hAe]; exact Or.inr h
  have hS : va_S A s.heap s.heap [] := va_S.rf
  have hl := lv_entry ([.ref (b 0), .int le, .int f9, .int n9]) (n := 6) (Nat.le_of_ble_eq_true rfl)
  rw [lg_entry_eq]
  generalize (lg_sl ([.ref (b 0), .int le, .int f9, .int n9]) ++ List.replicate (6 - (lg_sl ([.ref (b 0), .int le, .int f9, .int n9])).length) Slot.unset).toArray = ls at hl ⊢
  have hl : lv_has ls 6 [(0, .ref (b 0)), (1, .int le), (2, .int f9), (3, .int n9)] := hl
  refine lp_q (fun Q9 hQ9 => ?_)
  refine lv_aload_n hx hb dMo_learn_0 rfl (lv_at hl 0 rfl) ?_
  refine lv_iconst (v := nI 0) hx hb dMo_learn_1 (by decide +kernel) ?_
  refine va_put (D := (dC, dI)) (ci := 8) (fs := mo_f b I D) (v := .int (nI 0)) (ty := .int) (C := RMo) (T := TMo) (N := 27) hx hb hts inMo tyMo tyMo_ok nmMo hown hK hP hD hS 0 rfl rfl 0 (by decide) (hts _ tw_647) (fun _ h9 => h9) rfl (by decide +kernel) rfl rfl (Nat.le_of_ble_eq_true rfl) dMo_learn_2 (fun H locs hP hD hS => ?_)
  rw [wm_p0] at hP hD
  obtain ⟨I1, eI1⟩ : ∃ z, z = ui I 0 0 (nI 0) := ⟨_, rfl⟩
  rw [← eI1] at hP hD
  refine lv_aload_n hx hb dMo_learn_5 rfl (lv_at hl 0 rfl) ?_
  refine lv_iload_n hx hb dMo_learn_6 rfl (lv_at hl 1 rfl) ?_
  refine lv_i2l (v := le.toInt64) hx hb dMo_learn_7 rfl ?_
  refine lv_ldc2 (v := 97) hx hb hown (hts _ tw_828) dMo_learn_8 ?_
  refine rw_l (y := lN 97) (by decide +kernel) ?_
  refine lv_ldc2 (v := 122) hx hb hown (hts _ tw_829) dMo_learn_11 ?_
  refine rw_l (y := lN 122) (by decide +kernel) ?_
  refine ct_i (va_runS (As := [.long le.toInt64, .long (lN 97), .long (lN 122)]) (rest := [.ref (b 0)]) ⟨hx, hb, hml, hown, hts⟩ (kMo_in l dC dI k b I1 D _ le.toInt64 (lN 97) (lN 122)) (va_cwS 3 hts (gw_S tw_734 tw_735 tw_9 tw_736) rfl rfl rfl (by decide +kernel) ⟨Nat.le_of_ble_eq_true rfl, Nat.le_of_ble_eq_true rfl⟩) ⟨ct_blind (ev := fun _ => True) (fun _ _ _ _ h => h), ct_now (ev := fun _ => True) (fun _ _ _ => trivial) hP hK hD⟩ rfl rfl hl.1 rfl (lv_room (Nat.le_of_ble_eq_true rfl)) dMo_learn_14 ⟨Nat.le_of_ble_eq_true rfl, Nat.le_of_ble_eq_true rfl⟩) hD hS hA (fun r2 u2 H locs hw2 hP hD hS => ?_)
  by_cases g14 : lN 97 ≤ le.toInt64 ∧ le.toInt64 ≤ lN 122
  · rw [if_pos g14] at hw2
    subst hw2
    refine rw_i (y := nI 1) rfl ?_
    have hL := in_ab (by decide) (by decide) g14
    refine lv_if_eq (tgt := 32) hx hb dMo_learn_17 (by decide) (fun c17 => ?_) (fun c17 => ?_)
    · have c17 : 1 = 0 := (nI_eq (a := 1) (b := 0) (by omega) (by omega)).mp (show nI 1 = nI 0 from c17)
      exact absurd c17 (by decide)
    · have c17 : ¬ 1 = 0 := fun q9 => c17 (show nI 1 = nI 0 from (nI_eq (a := 1) (b := 0) (by omega) (by omega)).mpr q9)
      refine lv_iload_n hx hb dMo_learn_20 rfl (lv_at hl 3 rfl) ?_
      refine lv_i2l (v := n9.toInt64) hx hb dMo_learn_21 rfl ?_
      refine lv_lconst (v := lN 1) hx hb dMo_learn_22 (by decide +kernel) ?_
      refine lv_ldc2 (v := 8) hx hb hown (hts _ tw_733) dMo_learn_23 ?_
      refine rw_l (y := lN 8) (by decide +kernel) ?_
      refine ct_i (va_runS (As := [.long n9.toInt64, .long (lN 1), .long (lN 8)]) (rest := [.ref (b 0)]) ⟨hx, hb, hml, hown, hts⟩ (kMo_in l dC dI k b I1 D _ n9.toInt64 (lN 1) (lN 8)) (va_cwS 3 hts (gw_S tw_734 tw_735 tw_9 tw_736) rfl rfl rfl (by decide +kernel) ⟨Nat.le_of_ble_eq_true rfl, Nat.le_of_ble_eq_true rfl⟩) ⟨ct_blind (ev := fun _ => True) (fun _ _ _ _ h => h), ct_now (ev := fun _ => True) (fun _ _ _ => trivial) hP hK hD⟩ rfl rfl hl.1 rfl (lv_room (Nat.le_of_ble_eq_true rfl)) dMo_learn_26 ⟨Nat.le_of_ble_eq_true rfl, Nat.le_of_ble_eq_true rfl⟩) hD hS hA (fun r3 u3 H locs hw3 hP hD hS => ?_)
      by_cases g26 : lN 1 ≤ n9.toInt64 ∧ n9.toInt64 ≤ lN 8
      · rw [if_pos g26] at hw3
        subst hw3
        refine rw_i (y := nI 1) rfl ?_
        obtain ⟨q, q1, q2, rfl⟩ := in_ab (by decide) (by decide) g26
        refine lv_if_ne (tgt := 36) hx hb dMo_learn_29 (by decide) (fun c29 => ?_) (fun c29 => ?_)
        · have c29 : ¬ 1 = 0 := fun q9 => c29 (show nI 1 = nI 0 from (nI_eq (a := 1) (b := 0) (by omega) (by omega)).mpr q9)
          refine lv_iconst (v := nI 0) hx hb dMo_learn_36 (by decide +kernel) ?_
          refine lv_iconst (v := nI 1) hx hb dMo_learn_37 (by decide +kernel) ?_
          refine ct_i (va_runV (As := [.int (nI 0), .int (nI 1)]) (rest := []) ⟨hx, hb, hml, hown, hts⟩ (kMo_fails0 l dC dI k b I1 D _ (nI 1) (by rw [eI1, ui_s])) (cwV 2 hts (gw_V tw_737 tw_739 sl_Mo_fails tw_9 tw_740) rfl rfl rfl (by decide +kernel) ⟨Nat.le_of_ble_eq_true rfl, Nat.le_of_ble_eq_true rfl⟩) ⟨ct_blind (ev := fun _ => True) (fun _ _ _ _ h => h), va_recv hK hP (ci := 8) (q0 := 0) rfl rfl, ct_now (ev := fun _ => True) (fun _ _ _ => trivial) hP hK hD⟩ rfl rfl hl.1 rfl (lv_room (Nat.le_of_ble_eq_true rfl)) dMo_learn_38 ⟨Nat.le_of_ble_eq_true rfl, Nat.le_of_ble_eq_true rfl⟩) hD hS hA (fun r4 u4 H locs hw4 hP hD hS => ?_)
          subst hw4
          refine lv_if_ne (tgt := 83) hx hb dMo_learn_41 (by decide) (fun c41 => ?_) (fun c41 => ?_)
          · have c41 : ¬ 0 = 0 := fun q9 => c41 (show nI 0 = nI 0 from (nI_eq (a := 0) (b := 0) (by omega) (by omega)).mpr q9)
            exact absurd (by decide) c41
          · have c41 : 0 = 0 := (nI_eq (a := 0) (b := 0) (by omega) (by omega)).mp (show nI 0 = nI 0 from c41)
            refine lv_aload_n hx hb dMo_learn_44 rfl (lv_at hl 0 rfl) ?_
            refine lv_iload_n hx hb dMo_learn_45 rfl (lv_at hl 2 rfl) ?_
            refine lv_i2l (v := f9.toInt64) hx hb dMo_learn_46 rfl ?_
            refine lv_lconst (v := lN 0) hx hb dMo_learn_47 (by decide +kernel) ?_
            refine lv_aload_n hx hb dMo_learn_48 rfl (lv_at hl 0 rfl) ?_
            refine ct_i (va_runV (As := []) (rest := [.long (lN 0), .long f9.toInt64, .ref (b 0)]) ⟨hx, hb, hml, hown, hts⟩ (kMo_frames l dC dI k b I1 D _ ns hn (by rw [eI1, ui_n _ _ _ (by decide)]; exact h3)) (cwV 0 hts (gw_V tw_790 tw_792 sl_Mo_frames tw_9 tw_793) rfl rfl rfl (by decide +kernel) ⟨Nat.le_of_ble_eq_true rfl, Nat.le_of_ble_eq_true rfl⟩) ⟨ct_blind (ev := fun _ => True) (fun _ _ _ _ h => h), va_recv hK hP (ci := 8) (q0 := 0) rfl rfl, ct_now (ev := fun _ => True) (fun _ _ _ => trivial) hP hK hD⟩ rfl rfl hl.1 rfl (lv_room (Nat.le_of_ble_eq_true rfl)) dMo_learn_49 ⟨Nat.le_of_ble_eq_true rfl, Nat.le_of_ble_eq_true rfl⟩) hD hS hA (fun r5 u5 H locs hw5 hP hD hS => ?_)
            subst hw5
            have hnf := nf_le hn
            refine lv_i2l (v := lN (hd_nf ns)) hx hb dMo_learn_52 (nI_l (by omega)) ?_
            refine lv_iload_n hx hb dMo_learn_53 rfl (lv_at hl 3 rfl) ?_
            refine lv_i2l (v := lN q) hx hb dMo_learn_54 (nI_l (by omega)) ?_
            refine lv_lsub hx hb dMo_learn_55 ?_
            refine ct_i (va_runS (As := [.long f9.toInt64, .long (lN 0), .long ((lN (hd_nf ns)) - (lN q))]) (rest := [.ref (b 0)]) ⟨hx, hb, hml, hown, hts⟩ (kMo_in l dC dI k b I1 D _ f9.toInt64 (lN 0) ((lN (hd_nf ns)) - (lN q))) (va_cwS 3 hts (gw_S tw_734 tw_735 tw_9 tw_736) rfl rfl rfl (by decide +kernel) ⟨Nat.le_of_ble_eq_true rfl, Nat.le_of_ble_eq_true rfl⟩) ⟨ct_blind (ev := fun _ => True) (fun _ _ _ _ h => h), ct_now (ev := fun _ => True) (fun _ _ _ => trivial) hP hK hD⟩ rfl rfl hl.1 rfl (lv_room (Nat.le_of_ble_eq_true rfl)) dMo_learn_56 ⟨Nat.le_of_ble_eq_true rfl, Nat.le_of_ble_eq_true rfl⟩) hD hS hA (fun r6 u6 H locs hw6 hP hD hS => ?_)
            by_cases g56 : lN 0 ≤ f9.toInt64 ∧ f9.toInt64 ≤ (lN (hd_nf ns)) - (lN q)
            · rw [if_pos g56] at hw6
              subst hw6
              refine rw_i (y := nI 1) rfl ?_
              obtain ⟨f, hf, rfl⟩ := lr_in (nf_le hn) q2 g56
              refine lv_if_eq (tgt := 71) hx hb dMo_learn_59 (by decide) (fun c59 => ?_) (fun c59 => ?_)
              · have c59 : 1 = 0 := (nI_eq (a := 1) (b := 0) (by omega) (by omega)).mp (show nI 1 = nI 0 from c59)
                exact absurd c59 (by decide)
              · have c59 : ¬ 1 = 0 := fun q9 => c59 (show nI 1 = nI 0 from (nI_eq (a := 1) (b := 0) (by omega) (by omega)).mpr q9)
                refine lv_aload_n hx hb dMo_learn_62 rfl (lv_at hl 0 rfl) ?_
                refine va_get (D := (dC, dI)) (ci := 8) (v := .int (I1 0 5)) (C := RMo) (T := TMo) (N := 27) hx hb hts inMo hown hK hP 0 rfl rfl 5 (by decide) (hts _ tw_652) (fun _ h9 => h9) rfl dMo_learn_63 ?_
                refine rw_i (y := I 0 5) (by rw [eI1, ui_n _ _ _ (by decide)]) ?_
                refine rw_i (y := nI np) h5 ?_
                refine lv_bipush (v := nI 6) hx hb dMo_learn_66 (by decide +kernel) ?_
                refine lv_icmp_ne (tgt := 75) hx hb dMo_learn_68 (by decide) (fun c68 => ?_) (fun c68 => ?_)
                · have c68 : ¬ np = 6 := fun q9 => c68 (show nI np = nI 6 from (nI_eq (a := np) (b := 6) (by omega) (by omega)).mpr q9)
                  refine lv_iconst (v := nI 0) hx hb dMo_learn_75 (by decide +kernel) ?_
                  refine lv_iconst (v := nI 2) hx hb dMo_learn_76 (by decide +kernel) ?_
                  refine ct_i (va_runV (As := [.int (nI 0), .int (nI 2)]) (rest := []) ⟨hx, hb, hml, hown, hts⟩ (kMo_fails0 l dC dI k b I1 D _ (nI 2) (by rw [eI1, ui_s])) (cwV 2 hts (gw_V tw_737 tw_739 sl_Mo_fails tw_9 tw_740) rfl rfl rfl (by decide +kernel) ⟨Nat.le_of_ble_eq_true rfl, Nat.le_of_ble_eq_true rfl⟩) ⟨ct_blind (ev := fun _ => True) (fun _ _ _ _ h => h), va_recv hK hP (ci := 8) (q0 := 0) rfl rfl, ct_now (ev := fun _ => True) (fun _ _ _ => trivial) hP hK hD⟩ rfl rfl hl.1 rfl (lv_room (Nat.le_of_ble_eq_true rfl)) dMo_learn_77 ⟨Nat.le_of_ble_eq_true rfl, Nat.le_of_ble_eq_true rfl⟩) hD hS hA (fun r7 u7 H locs hw7 hP hD hS => ?_)
                  subst hw7
                  refine lv_if_eq (tgt := 85) hx hb dMo_learn_80 (by decide) (fun c80 => ?_) (fun c80 => ?_)
                  · have c80 : 0 = 0 := (nI_eq (a := 0) (b := 0) (by omega) (by omega)).mp (show nI 0 = nI 0 from c80)
                    refine lv_aload_n hx hb dMo_learn_85 rfl (lv_at hl 0 rfl) ?_
                    refine va_get (D := (dC, dI)) (ci := 8) (v := .ref (b 2)) (C := RMo) (T := TMo) (N := 27) hx hb hts inMo hown hK hP 0 rfl rfl 13 (by decide) (hts _ tw_660) (fun _ h9 => h9) rfl dMo_learn_86 ?_
                    refine lv_aload_n hx hb dMo_learn_89 rfl (lv_at hl 0 rfl) ?_
                    refine va_get (D := (dC, dI)) (ci := 8) (v := .int (I1 0 5)) (C := RMo) (T := TMo) (N := 27) hx hb hts inMo hown hK hP 0 rfl rfl 5 (by decide) (hts _ tw_652) (fun _ h9 => h9) rfl dMo_learn_90 ?_
                    refine rw_i (y := I 0 5) (by rw [eI1, ui_n _ _ _ (by decide)]) ?_
                    refine rw_i (y := nI np) h5 ?_
                    refine lv_iload_n hx hb dMo_learn_93 rfl (lv_at hl 1 rfl) ?_
                    refine rw_ast_i hx hb hK hP hD hS 2 0 rfl rfl (by omega) (by decide) dMo_learn_94 (fun H locs hP hD hS => ?_)
                    rw [wm_a2] at hP hD
                    obtain ⟨I8, eI8⟩ : ∃ z, z = ui I1 2 np le := ⟨_, rfl⟩
                    rw [← eI8] at hP hD
                    refine lv_aload_n hx hb dMo_learn_95 rfl (lv_at hl 0 rfl) ?_
                    refine va_get (D := (dC, dI)) (ci := 8) (v := .ref (b 3)) (C := RMo) (T := TMo) (N := 27) hx hb hts inMo hown hK hP 0 rfl rfl 14 (by decide) (hts _ tw_661) (fun _ h9 => h9) rfl dMo_learn_96 ?_
                    refine lv_aload_n hx hb dMo_learn_99 rfl (lv_at hl 0 rfl) ?_
                    refine va_get (D := (dC, dI)) (ci := 8) (v := .int (I8 0 5)) (C := RMo) (T := TMo) (N := 27) hx hb hts inMo hown hK hP 0 rfl rfl 5 (by decide) (hts _ tw_652) (fun _ h9 => h9) rfl dMo_learn_100 ?_
                    refine rw_i (y := I 0 5) (by rw [eI8, ui_o _ _ _ (by decide), eI1, ui_n _ _ _ (by decide)]) ?_
                    refine rw_i (y := nI np) h5 ?_
                    refine lv_iload_n hx hb dMo_learn_103 rfl (lv_at hl 3 rfl) ?_
                    refine rw_ast_i hx hb hK hP hD hS 3 0 rfl rfl (by omega) (by decide) dMo_learn_104 (fun H locs hP hD hS => ?_)
                    rw [wm_a3] at hP hD
                    obtain ⟨I9, eI9⟩ : ∃ z, z = ui I8 3 np (nI q) := ⟨_, rfl⟩
                    rw [← eI9] at hP hD
                    refine lv_iconst (v := nI 0) hx hb dMo_learn_105 (by decide +kernel) ?_
                    refine lv_istore (lv' := [(4, .int (nI 0)), (0, .ref (b 0)), (1, .int le), (2, .int (nI f)), (3, .int (nI q))]) hx hb dMo_learn_106 hl (by decide) rfl (fun ls hl => ?_)
                    have hnf := nf_le hn
                    rw [← us_id D 2] at hP hD
                    have L108 : ∀ (n108 : Nat) (i : Nat) (v : Nat → UInt64), q - i < n108 → i ≤ q → (∀ z, z < 4 * i → v (32 * np + z) = hw_lv (D 1) f z) → (∀ z, z < 32 * np → v z = D 2 z) → ∀ (H : Heap) (locs : List Loc), va_P (dC, dI) vwCl (wm k b I9 (us D 2 v)) H → va_D A (wm k b I9 (us D 2 v)) → va_S A s.heap H locs → ∀ ls : Array Slot, lv_has ls 6 [(0, .ref (b 0)), (1, .int le), (2, .int (nI f)), (3, .int (nI q)), (4, .int (nI i))] → W p l e (headSpec wMo_learn ({ frames := 3, cells := 0, slots := 0, locals := 80 })).room s m [.ref (b 0), .int le, .int (nI f), .int (nI q)].toArray below meth c H locs 0 0 Q9 (F0 m 108 ls []) := by
                      intro n108
                      induction n108 with
                      | zero => intro i v hm; exact absurd hm (Nat.not_lt_zero _)
                      | succ n108 ih108 =>
                        intro i v hm108 hi hv hv2 H locs hP hD hS ls hl
                        refine lv_iload hx hb dMo_learn_108 (lv_at hl 4 rfl) ?_
                        refine lv_iload_n hx hb dMo_learn_110 rfl (lv_at hl 3 rfl) ?_
                        refine lv_icmp_ge (tgt := 165) hx hb dMo_learn_111 (by decide) (fun c111 => ?_) (fun c111 => ?_)
                        · have c111 : q ≤ i := (nI_leI (a := q) (b := i) (by omega) (by omega)).mp (show nI q ≤ nI i from c111)
                          refine lv_aload_n hx hb dMo_learn_165 rfl (lv_at hl 0 rfl) ?_
                          refine lv_dup hx hb dMo_learn_166 rfl ?_
                          refine va_get (D := (dC, dI)) (ci := 8) (v := .int (I9 0 5)) (C := RMo) (T := TMo) (N := 27) hx hb hts inMo hown hK hP 0 rfl rfl 5 (by decide) (hts _ tw_652) (fun _ h9 => h9) rfl dMo_learn_167 ?_
                          refine rw_i (y := I 0 5) (by rw [eI9, ui_o _ _ _ (by decide), eI8, ui_o _ _ _ (by decide), eI1, ui_n _ _ _ (by decide)]) ?_
                          refine rw_i (y := nI np) h5 ?_
                          refine lv_iconst (v := nI 1) hx hb dMo_learn_170 (by decide +kernel) ?_
                          refine lv_iadd hx hb dMo_learn_171 ?_
                          refine rw_i (y := nI (np + 1)) (nI_add _ _) ?_
                          refine va_put (D := (dC, dI)) (ci := 8) (fs := mo_f b I9 (us D 2 v)) (v := .int (nI (np + 1))) (ty := .int) (C := RMo) (T := TMo) (N := 27) hx hb hts inMo tyMo tyMo_ok nmMo hown hK hP hD hS 0 rfl rfl 5 (by decide) (hts _ tw_652) (fun _ h9 => h9) rfl (by decide +kernel) rfl rfl (Nat.le_of_ble_eq_true rfl) dMo_learn_172 (fun H locs hP hD hS => ?_)
                          rw [wm_p5] at hP hD
                          obtain ⟨I10, eI10⟩ : ∃ z, z = ui I9 0 5 (nI (np + 1)) := ⟨_, rfl⟩
                          rw [← eI10] at hP hD
                          refine lv_aload_n hx hb dMo_learn_175 rfl (lv_at hl 0 rfl) ?_
                          refine va_get (D := (dC, dI)) (ci := 8) (v := .int (I10 0 5)) (C := RMo) (T := TMo) (N := 27) hx hb hts inMo hown hK hP 0 rfl rfl 5 (by decide) (hts _ tw_652) (fun _ h9 => h9) rfl dMo_learn_176 ?_
                          refine rw_i (y := nI (np + 1)) (by rw [eI10, ui_s]) ?_
                          rw [hQ9]
                          exact ct_ri hx hb hr hlocks (I10, v) (Or.inr ⟨hL, q, q1, q2, rfl, Or.inr ⟨f, hf, rfl, by omega, rfl, by rw [eI10, eI9, eI8, eI1], fun z hz => hv z (by omega), hv2⟩⟩) hP hD hS (Nat.le_refl _) (Nat.le_refl _) dMo_learn_179
                        · have c111 : ¬ q ≤ i := fun q9 => c111 (show nI q ≤ nI i from (nI_leI (a := q) (b := i) (by omega) (by omega)).mpr q9)
                          refine lv_iconst (v := nI 0) hx hb dMo_learn_114 (by decide +kernel) ?_
                          refine lv_istore (lv' := [(5, .int (nI 0)), (0, .ref (b 0)), (1, .int le), (2, .int (nI f)), (3, .int (nI q)), (4, .int (nI i))]) hx hb dMo_learn_115 hl (by decide) rfl (fun ls hl => ?_)
                          have L117 : ∀ (n117 : Nat) (j : Nat) (v : Nat → UInt64), 4 - j < n117 → j ≤ 4 → (∀ z, z < 4 * i + j → v (32 * np + z) = hw_lv (D 1) f z) → (∀ z, z < 32 * np → v z = D 2 z) → ∀ (H : Heap) (locs : List Loc), va_P (dC, dI) vwCl (wm k b I9 (us D 2 v)) H → va_D A (wm k b I9 (us D 2 v)) → va_S A s.heap H locs → ∀ ls : Array Slot, lv_has ls 6 [(0, .ref (b 0)), (1, .int le), (2, .int (nI f)), (3, .int (nI q)), (4, .int (nI i)), (5, .int (nI j))] → W p l e (headSpec wMo_learn ({ frames := 3, cells := 0, slots := 0, locals := 80 })).room s m [.ref (b 0), .int le, .int (nI f), .int (nI q)].toArray below meth c H locs 0 0 Q9 (F0 m 117 ls []) := by
                            intro n117
                            induction n117 with
                            | zero => intro j v hm; exact absurd hm (Nat.not_lt_zero _)
                            | succ n117 ih117 =>
                              intro j v hm117 hj hv hv2 H locs hP hD hS ls hl
                              refine lv_iload hx hb dMo_learn_117 (lv_at hl 5 rfl) ?_
                              refine lv_iconst (v := nI 4) hx hb dMo_learn_119 (by decide +kernel) ?_
                              refine lv_icmp_ge (tgt := 159) hx hb dMo_learn_120 (by decide) (fun c120 => ?_) (fun c120 => ?_)
                              · have c120 : 4 ≤ j := (nI_leI (a := 4) (b := j) (by omega) (by omega)).mp (show nI 4 ≤ nI j from c120)
                                refine lv_iinc (v := nI (i + 1)) (lv' := [(4, .int (nI (i + 1))), (0, .ref (b 0)), (1, .int le), (2, .int (nI f)), (3, .int (nI q)), (5, .int (nI j))]) hx hb dMo_learn_159 hl (k := 4) rfl (nI_1 _) (by decide) rfl (fun ls hl => ?_)
                                refine lv_goto (tgt := 108) hx hb dMo_learn_162 (by decide) ?_
                                exact ih108 (i + 1) v (by omega) (by omega) (fun z hz => hv z (by omega)) hv2 _ _ hP hD hS ls (lv_sub hl [1, 2, 3, 4, 0] rfl)
                              · have c120 : ¬ 4 ≤ j := fun q9 => c120 (show nI 4 ≤ nI j from (nI_leI (a := 4) (b := j) (by omega) (by omega)).mpr q9)
                                refine lv_aload_n hx hb dMo_learn_123 rfl (lv_at hl 0 rfl) ?_
                                refine va_get (D := (dC, dI)) (ci := 8) (v := .ref (b 9)) (C := RMo) (T := TMo) (N := 27) hx hb hts inMo hown hK hP 0 rfl rfl 20 (by decide) (hts _ tw_667) (fun _ h9 => h9) rfl dMo_learn_124 ?_
                                refine lv_bipush (v := nI 32) hx hb dMo_learn_127 (by decide +kernel) ?_
                                refine lv_aload_n hx hb dMo_learn_129 rfl (lv_at hl 0 rfl) ?_
                                refine va_get (D := (dC, dI)) (ci := 8) (v := .int (I9 0 5)) (C := RMo) (T := TMo) (N := 27) hx hb hts inMo hown hK hP 0 rfl rfl 5 (by decide) (hts _ tw_652) (fun _ h9 => h9) rfl dMo_learn_130 ?_
                                refine rw_i (y := I 0 5) (by rw [eI9, ui_o _ _ _ (by decide), eI8, ui_o _ _ _ (by decide), eI1, ui_n _ _ _ (by decide)]) ?_
                                refine rw_i (y := nI np) h5 ?_
                                refine lv_imul hx hb dMo_learn_133 ?_
                                refine rw_i (y := nI (32 * np)) (pk_mul _ _) ?_
                                refine lv_iconst (v := nI 4) hx hb dMo_learn_134 (by decide +kernel) ?_
                                refine lv_iload hx hb dMo_learn_135 (lv_at hl 4 rfl) ?_
                                refine lv_imul hx hb dMo_learn_137 ?_
                                refine rw_i (y := nI (4 * i)) (pk_mul _ _) ?_
                                refine lv_iadd hx hb dMo_learn_138 ?_
                                refine rw_i (y := nI ((32 * np) + (4 * i))) (nI_add _ _) ?_
                                refine lv_iload hx hb dMo_learn_139 (lv_at hl 5 rfl) ?_
                                refine lv_iadd hx hb dMo_learn_141 ?_
                                refine rw_i (y := nI (((32 * np) + (4 * i)) + j)) (nI_add _ _) ?_
                                refine lv_aload_n hx hb dMo_learn_142 rfl (lv_at hl 0 rfl) ?_
                                refine lv_iload_n hx hb dMo_learn_143 rfl (lv_at hl 2 rfl) ?_
                                refine lv_iload hx hb dMo_learn_144 (lv_at hl 4 rfl) ?_
                                refine lv_iadd hx hb dMo_learn_146 ?_
                                refine rw_i (y := nI (f + i)) (nI_add _ _) ?_
                                refine lv_iload hx hb dMo_learn_147 (lv_at hl 5 rfl) ?_
                                have hfi := nf_lt (n := ns) (j := f + i) (by omega)
                                refine ct_d (va_runV (As := [.int (nI (f + i)), .int (nI j)]) (rest := [.int (nI (((32 * np) + (4 * i)) + j)), .ref (b 9)]) ⟨hx, hb, hml, hown, hts⟩ (kMo_levelOf l dC dI k b I9 (us D 2 v) _ (f + i) j (by omega) (by omega) (fun z hz => by rw [us_o _ _ (by decide)]; exact hsm _ (by omega)) (fun z hz => by rw [us_o _ _ (by decide)]; exact hc z hz) (fun z hz => by rw [us_o _ _ (by decide)]; exact hsn z hz)) (cwV 2 hts (gw_V tw_804 tw_806 sl_Mo_levelOf tw_9 tw_807) rfl rfl rfl (by decide +kernel) ⟨Nat.le_of_ble_eq_true rfl, Nat.le_of_ble_eq_true rfl⟩) ⟨ct_blind (ev := fun _ => True) (fun _ _ _ _ h => h), va_recv hK hP (ci := 8) (q0 := 0) rfl rfl, ct_now (ev := fun _ => True) (fun _ _ _ => trivial) hP hK hD⟩ rfl rfl hl.1 rfl (lv_room (Nat.le_of_ble_eq_true rfl)) dMo_learn_149 ⟨Nat.le_of_ble_eq_true rfl, Nat.le_of_ble_eq_true rfl⟩) hD hS hA (fun r11 u11 H locs hw11 hP hD hS => ?_)
                                rw [us_o _ _ (by decide)] at hw11
                                subst hw11
                                refine rw_d (y := hw_lv (D 1) f (4 * i + j)) (hw_lv_e _ _ _ _ (by omega)) ?_
                                refine rw_ast_d hx hb hK hP hD hS 9 1 rfl rfl (by omega) (by decide) dMo_learn_152 (fun H locs hP hD hS => ?_)
                                rw [wm_a9] at hP hD
                                obtain ⟨D12, eD12⟩ : ∃ z, z = ud (us D 2 v) 2 (((32 * np) + (4 * i)) + j) (hw_lv (D 1) f (4 * i + j)) := ⟨_, rfl⟩
                                rw [← eD12] at hP hD
                                refine lv_iinc (v := nI (j + 1)) (lv' := [(5, .int (nI (j + 1))), (0, .ref (b 0)), (1, .int le), (2, .int (nI f)), (3, .int (nI q)), (4, .int (nI i))]) hx hb dMo_learn_153 hl (k := 5) rfl (nI_1 _) (by decide) rfl (fun ls hl => ?_)
                                refine lv_goto (tgt := 117) hx hb dMo_learn_156 (by decide) ?_
                                rw [eD12] at hP hD
                                rw [ud_us] at hP hD
                                have hv3 : ∀ z, z < 4 * i + (j + 1) → vf_upd v (32 * np + 4 * i + j) (hw_lv (D 1) f (4 * i + j)) (32 * np + z) = hw_lv (D 1) f z := fun z hz => by
                                  by_cases e9 : z = 4 * i + j
                                  · subst e9; rw [show 32 * np + (4 * i + j) = 32 * np + 4 * i + j by omega, vu_s]
                                  · rw [vu_n _ _ (by omega)]; exact hv z (by omega)
                                have hv4 : ∀ z, z < 32 * np → vf_upd v (32 * np + 4 * i + j) (hw_lv (D 1) f (4 * i + j)) z = D 2 z := fun z hz => by rw [vu_n _ _ (by omega)]; exact hv2 z hz
                                exact ih117 (j + 1) (vf_upd v (32 * np + 4 * i + j) (hw_lv (D 1) f (4 * i + j))) (by omega) (by omega) hv3 hv4 _ _ hP hD hS ls (lv_sub hl [1, 2, 3, 4, 5, 0] rfl)
                          exact L117 _ 0 v (Nat.lt_succ_self _) (by omega) (fun z hz => hv z (by omega)) hv2 _ _ hP hD hS ls (lv_sub hl [1, 2, 3, 4, 5, 0] rfl)
                    exact L108 _ 0 (D 2) (Nat.lt_succ_self _) (by omega) (fun z hz => absurd hz (by omega)) (fun z hz => rfl) _ _ hP hD hS ls (lv_sub hl [1, 2, 3, 4, 0] rfl)
                  · have c80 : ¬ 0 = 0 := fun q9 => c80 (show nI 0 = nI 0 from (nI_eq (a := 0) (b := 0) (by omega) (by omega)).mpr q9)
                    exact absurd (by decide) c80
                · have c68 : np = 6 := (nI_eq (a := np) (b := 6) (by omega) (by omega)).mp (show nI np = nI 6 from c68)
                  refine lv_iconst (v := nI 1) hx hb dMo_learn_71 (by decide +kernel) ?_
                  refine lv_goto (tgt := 76) hx hb dMo_learn_72 (by decide) ?_
                  refine lv_iconst (v := nI 2) hx hb dMo_learn_76 (by decide +kernel) ?_
                  refine ct_i (va_runV (As := [.int (nI 1), .int (nI 2)]) (rest := []) ⟨hx, hb, hml, hown, hts⟩ (kMo_fails1 l dC dI k b I1 D _ 2 (by omega) (by omega) (by rw [eI1, ui_s])) (cwV 2 hts (gw_V tw_737 tw_739 sl_Mo_fails tw_9 tw_740) rfl rfl rfl (by decide +kernel) ⟨Nat.le_of_ble_eq_true rfl, Nat.le_of_ble_eq_true rfl⟩) ⟨ct_blind (ev := fun _ => True) (fun _ _ _ _ h => h), va_recv hK hP (ci := 8) (q0 := 0) rfl rfl, ct_now (ev := fun _ => True) (fun _ _ _ => trivial) hP hK hD⟩ rfl rfl hl.1 rfl (lv_room (Nat.le_of_ble_eq_true rfl)) dMo_learn_77 ⟨Nat.le_of_ble_eq_true rfl, Nat.le_of_ble_eq_true rfl⟩) hD hS hA (fun r13 u13 H locs hw13 hP hD hS => ?_)
                  obtain ⟨r13e, eu13⟩ := hw13
                  subst r13e
                  refine lv_if_eq (tgt := 85) hx hb dMo_learn_80 (by decide) (fun c80 => ?_) (fun c80 => ?_)
                  · have c80 : 1 = 0 := (nI_eq (a := 1) (b := 0) (by omega) (by omega)).mp (show nI 1 = nI 0 from c80)
                    exact absurd c80 (by decide)
                  · have c80 : ¬ 1 = 0 := fun q9 => c80 (show nI 1 = nI 0 from (nI_eq (a := 1) (b := 0) (by omega) (by omega)).mpr q9)
                    refine lv_iconst (v := nI 0) hx hb dMo_learn_83 (by decide +kernel) ?_
                    rw [← us_id D 2] at hP hD
                    rw [hQ9]
                    exact ct_ri hx hb hr hlocks (u13, D 2) (Or.inr ⟨hL, q, q1, q2, rfl, Or.inl ⟨by first | (exact Or.inr c68) | (exact Or.inl (fun z => g56 (lr_ni (nf_le hn) q2 z))), by rw [eu13, eI1]⟩⟩) hP hD hS (Nat.le_refl _) (Nat.le_refl _) dMo_learn_84
            · rw [if_neg g56] at hw6
              subst hw6
              refine rw_i (y := nI 0) rfl ?_
              refine lv_if_eq (tgt := 71) hx hb dMo_learn_59 (by decide) (fun c59 => ?_) (fun c59 => ?_)
              · have c59 : 0 = 0 := (nI_eq (a := 0) (b := 0) (by omega) (by omega)).mp (show nI 0 = nI 0 from c59)
                refine lv_iconst (v := nI 1) hx hb dMo_learn_71 (by decide +kernel) ?_
                refine lv_goto (tgt := 76) hx hb dMo_learn_72 (by decide) ?_
                refine lv_iconst (v := nI 2) hx hb dMo_learn_76 (by decide +kernel) ?_
                refine ct_i (va_runV (As := [.int (nI 1), .int (nI 2)]) (rest := []) ⟨hx, hb, hml, hown, hts⟩ (kMo_fails1 l dC dI k b I1 D _ 2 (by omega) (by omega) (by rw [eI1, ui_s])) (cwV 2 hts (gw_V tw_737 tw_739 sl_Mo_fails tw_9 tw_740) rfl rfl rfl (by decide +kernel) ⟨Nat.le_of_ble_eq_true rfl, Nat.le_of_ble_eq_true rfl⟩) ⟨ct_blind (ev := fun _ => True) (fun _ _ _ _ h => h), va_recv hK hP (ci := 8) (q0 := 0) rfl rfl, ct_now (ev := fun _ => True) (fun _ _ _ => trivial) hP hK hD⟩ rfl rfl hl.1 rfl (lv_room (Nat.le_of_ble_eq_true rfl)) dMo_learn_77 ⟨Nat.le_of_ble_eq_true rfl, Nat.le_of_ble_eq_true rfl⟩) hD hS hA (fun r14 u14 H locs hw14 hP hD hS => ?_)
                obtain ⟨r14e, eu14⟩ := hw14
                subst r14e
                refine lv_if_eq (tgt := 85) hx hb dMo_learn_80 (by decide) (fun c80 => ?_) (fun c80 => ?_)
                · have c80 : 1 = 0 := (nI_eq (a := 1) (b := 0) (by omega) (by omega)).mp (show nI 1 = nI 0 from c80)
                  exact absurd c80 (by decide)
                · have c80 : ¬ 1 = 0 := fun q9 => c80 (show nI 1 = nI 0 from (nI_eq (a := 1) (b := 0) (by omega) (by omega)).mpr q9)
                  refine lv_iconst (v := nI 0) hx hb dMo_learn_83 (by decide +kernel) ?_
                  rw [← us_id D 2] at hP hD
                  rw [hQ9]
                  exact ct_ri hx hb hr hlocks (u14, D 2) (Or.inr ⟨hL, q, q1, q2, rfl, Or.inl ⟨by first | (exact Or.inr c68) | (exact Or.inl (fun z => g56 (lr_ni (nf_le hn) q2 z))), by rw [eu14, eI1]⟩⟩) hP hD hS (Nat.le_refl _) (Nat.le_refl _) dMo_learn_84
              · have c59 : ¬ 0 = 0 := fun q9 => c59 (show nI 0 = nI 0 from (nI_eq (a := 0) (b := 0) (by omega) (by omega)).mpr q9)
                exact absurd (by decide) c59
        · have c29 : 1 = 0 := (nI_eq (a := 1) (b := 0) (by omega) (by omega)).mp (show nI 1 = nI 0 from c29)
          exact absurd c29 (by decide)
      · rw [if_neg g26] at hw3
        subst hw3
        refine rw_i (y := nI 0) rfl ?_
        refine lv_if_ne (tgt := 36) hx hb dMo_learn_29 (by decide) (fun c29 => ?_) (fun c29 => ?_)
        · have c29 : ¬ 0 = 0 := fun q9 => c29 (show nI 0 = nI 0 from (nI_eq (a := 0) (b := 0) (by omega) (by omega)).mpr q9)
          exact absurd (by decide) c29
        · have c29 : 0 = 0 := (nI_eq (a := 0) (b := 0) (by omega) (by omega)).mp (show nI 0 = nI 0 from c29)
          refine lv_iconst (v := nI 1) hx hb dMo_learn_32 (by decide +kernel) ?_
          refine lv_goto (tgt := 37) hx hb dMo_learn_33 (by decide) ?_
          refine lv_iconst (v := nI 1) hx hb dMo_learn_37 (by decide +kernel) ?_
          refine ct_i (va_runV (As := [.int (nI 1), .int (nI 1)]) (rest := []) ⟨hx, hb, hml, hown, hts⟩ (kMo_fails1 l dC dI k b I1 D _ 1 (by omega) (by omega) (by rw [eI1, ui_s])) (cwV 2 hts (gw_V tw_737 tw_739 sl_Mo_fails tw_9 tw_740) rfl rfl rfl (by decide +kernel) ⟨Nat.le_of_ble_eq_true rfl, Nat.le_of_ble_eq_true rfl⟩) ⟨ct_blind (ev := fun _ => True) (fun _ _ _ _ h => h), va_recv hK hP (ci := 8) (q0 := 0) rfl rfl, ct_now (ev := fun _ => True) (fun _ _ _ => trivial) hP hK hD⟩ rfl rfl hl.1 rfl (lv_room (Nat.le_of_ble_eq_true rfl)) dMo_learn_38 ⟨Nat.le_of_ble_eq_true rfl, Nat.le_of_ble_eq_true rfl⟩) hD hS hA (fun r15 u15 H locs hw15 hP hD hS => ?_)
          obtain ⟨r15e, eu15⟩ := hw15
          subst r15e
          refine lv_if_ne (tgt := 83) hx hb dMo_learn_41 (by decide) (fun c41 => ?_) (fun c41 => ?_)
          · have c41 : ¬ 1 = 0 := fun q9 => c41 (show nI 1 = nI 0 from (nI_eq (a := 1) (b := 0) (by omega) (by omega)).mpr q9)
            refine lv_iconst (v := nI 0) hx hb dMo_learn_83 (by decide +kernel) ?_
            rw [← us_id D 2] at hP hD
            rw [hQ9]
            exact ct_ri hx hb hr hlocks (u15, D 2) (Or.inl ⟨by first | (exact fun z => g14 (in_ba (by decide) (by decide) z.1)) | (exact fun z => g26 (in_ba (by decide) (by decide) z.2)), by rw [eu15, eI1]⟩) hP hD hS (Nat.le_refl _) (Nat.le_refl _) dMo_learn_84
          · have c41 : 1 = 0 := (nI_eq (a := 1) (b := 0) (by omega) (by omega)).mp (show nI 1 = nI 0 from c41)
            exact absurd c41 (by decide)
  · rw [if_neg g14] at hw2
    subst hw2
    refine rw_i (y := nI 0) rfl ?_
    refine lv_if_eq (tgt := 32) hx hb dMo_learn_17 (by decide) (fun c17 => ?_) (fun c17 => ?_)
    · have c17 : 0 = 0 := (nI_eq (a := 0) (b := 0) (by omega) (by omega)).mp (show nI 0 = nI 0 from c17)
      refine lv_iconst (v := nI 1) hx hb dMo_learn_32 (by decide +kernel) ?_
      refine lv_goto (tgt := 37) hx hb dMo_learn_33 (by decide) ?_
      refine lv_iconst (v := nI 1) hx hb dMo_learn_37 (by decide +kernel) ?_
      refine ct_i (va_runV (As := [.int (nI 1), .int (nI 1)]) (rest := []) ⟨hx, hb, hml, hown, hts⟩ (kMo_fails1 l dC dI k b I1 D _ 1 (by omega) (by omega) (by rw [eI1, ui_s])) (cwV 2 hts (gw_V tw_737 tw_739 sl_Mo_fails tw_9 tw_740) rfl rfl rfl (by decide +kernel) ⟨Nat.le_of_ble_eq_true rfl, Nat.le_of_ble_eq_true rfl⟩) ⟨ct_blind (ev := fun _ => True) (fun _ _ _ _ h => h), va_recv hK hP (ci := 8) (q0 := 0) rfl rfl, ct_now (ev := fun _ => True) (fun _ _ _ => trivial) hP hK hD⟩ rfl rfl hl.1 rfl (lv_room (Nat.le_of_ble_eq_true rfl)) dMo_learn_38 ⟨Nat.le_of_ble_eq_true rfl, Nat.le_of_ble_eq_true rfl⟩) hD hS hA (fun r16 u16 H locs hw16 hP hD hS => ?_)
      obtain ⟨r16e, eu16⟩ := hw16
      subst r16e
      refine lv_if_ne (tgt := 83) hx hb dMo_learn_41 (by decide) (fun c41 => ?_) (fun c41 => ?_)
      · have c41 : ¬ 1 = 0 := fun q9 => c41 (show nI 1 = nI 0 from (nI_eq (a := 1) (b := 0) (by omega) (by omega)).mpr q9)
        refine lv_iconst (v := nI 0) hx hb dMo_learn_83 (by decide +kernel) ?_
        rw [← us_id D 2] at hP hD
        rw [hQ9]
        exact ct_ri hx hb hr hlocks (u16, D 2) (Or.inl ⟨by first | (exact fun z => g14 (in_ba (by decide) (by decide) z.1)) | (exact fun z => g26 (in_ba (by decide) (by decide) z.2)), by rw [eu16, eI1]⟩) hP hD hS (Nat.le_refl _) (Nat.le_refl _) dMo_learn_84
      · have c41 : 1 = 0 := (nI_eq (a := 1) (b := 0) (by omega) (by omega)).mp (show nI 1 = nI 0 from c41)
        exact absurd c41 (by decide)
    · have c17 : ¬ 0 = 0 := fun q9 => c17 (show nI 0 = nI 0 from (nI_eq (a := 0) (b := 0) (by omega) (by omega)).mpr q9)
      exact absurd (by decide) c17
set_option maxHeartbeats 4000000 in
set_option maxRecDepth 100000 in
theorem kMo_forget (l : Launch) (dC : Nat → ClassId) (dI : Nat → Nat → Nat) (k : Nat → ClassId) (b : Nat → Nat) (I : Nat → Nat → Int32) (D : Nat → Nat → UInt64) (sz : Nat) (k9 : Int32) (np : Nat) (hn : np ≤ 6) (h5 : I 0 5 = nI np) : Met l yMo_forget wMo_forget ({ frames := 1, cells := 0, slots := 0, locals := 25 }) (va_Pc [.ref (b 0), .int k9] (ct_pre (dC, dI) (mo_ty k) (fun _ => True) (wm k b I D) sz)) (va_Qi (fun r (u : (Nat → Nat → Int32) × (Nat → Nat → UInt64)) => ((¬ ∃ j, j < np ∧ k9 = nI j) ∧ u = (ui (ui I 0 0 (nI 0)) 0 0 (nI 1), D)) ∨ (∃ x, x < np ∧ k9 = nI x ∧ r = I 2 x ∧ (∀ c, c ≠ 2 → c ≠ 3 → u.1 c = (ui (ui I 0 0 (nI 0)) 0 5 (nI (np - 1))) c) ∧ (∀ z, u.1 2 z = if x ≤ z ∧ z < np - 1 then I 2 (z + 1) else I 2 z) ∧ (∀ z, u.1 3 z = if x ≤ z ∧ z < np - 1 then I 3 (z + 1) else I 3 z) ∧ (∀ c, c ≠ 2 → u.2 c = D c) ∧ ∀ z, u.2 2 z = if 32 * x ≤ z ∧ z < 32 * (np - 1) then D 2 (z + 32) else D 2 z)) (fun u t => ct_at (dC, dI) (va_A (wm k b I D) sz) ((fun u => wm k b u.1 u.2) u) t) (va_A (wm k b I D) sz)) 0 0 (va_A (wm k b I D) sz) := by
  refine Met.ofW (cc := cMo_forget) (maxL := 5) (ret := (some .int)) (by decide) rfl ?_
  intro p e s m args below meth c s₁ B hml hv
  obtain ⟨rfl, hsz, hP, hK, hD0, hE⟩ := hv
  have hx := B.exec
  have hb := B.bytes
  have hr := B.returns
  have hts : ∀ w ∈ W0, w.before [.ref (b 0), .int k9].toArray s = true := fun w h => atoms_spec (ws := wMo_forget) B.pre w (List.mem_cons_of_mem _ h)
  have hown : s.vm.findClass RMo = some m.cls := findClass_of_methodNamed B.named
  have hlocks := B.notSynchronized
  subst hsz
  have hD := hD0.self (sz := s.heap.size)
  generalize hAe : va_A (wm k b I D) s.heap.size = A at hD ⊢
  have hA : ∀ q : Nat, s.heap.size ≤ q → A q := fun q h => by rw [← hAe]; exact Or.inr h
  have hS : va_S A s.heap s.heap [] := va_S.rf
  have hl := lv_entry ([.ref (b 0), .int k9]) (n := 5) (Nat.le_of_ble_eq_true rfl)
  rw [lg_entry_eq]
  generalize (lg_sl ([.ref (b 0), .int k9]) ++ List.replicate (5 - (lg_sl ([.ref (b 0), .int k9])).length) Slot.unset).toArray = ls at hl ⊢
  have hl : lv_has ls 5 [(0, .ref (b 0)), (1, .int k9)] := hl
  refine lp_q (fun Q9 hQ9 => ?_)
  refine lv_aload_n hx hb dMo_forget_0 rfl (lv_at hl 0 rfl) ?_
  refine lv_iconst (v := nI 0) hx hb dMo_forget_1 (by decide +kernel) ?_
  refine va_put (D := (dC, dI)) (ci := 8) (fs := mo_f b I D) (v := .int (nI 0)) (ty := .int) (C := RMo) (T := TMo) (N := 27) hx hb hts inMo tyMo tyMo_ok nmMo hown hK hP hD hS 0 rfl rfl 0 (by decide) (hts _ tw_647) (fun _ h9 => h9) rfl (by decide +kernel) rfl rfl (Nat.le_of_ble_eq_true rfl) dMo_forget_2 (fun H locs hP hD hS => ?_)
  rw [wm_p0] at hP hD
  obtain ⟨I1, eI1⟩ : ∃ z, z = ui I 0 0 (nI 0) := ⟨_, rfl⟩
  rw [← eI1] at hP hD
  refine lv_aload_n hx hb dMo_forget_5 rfl (lv_at hl 0 rfl) ?_
  refine lv_iload_n hx hb dMo_forget_6 rfl (lv_at hl 1 rfl) ?_
  refine lv_i2l (v := k9.toInt64) hx hb dMo_forget_7 rfl ?_
  refine lv_lconst (v := lN 0) hx hb dMo_forget_8 (by decide +kernel) ?_
  refine lv_aload_n hx hb dMo_forget_9 rfl (lv_at hl 0 rfl) ?_
  refine va_get (D := (dC, dI)) (ci := 8) (v := .int (I1 0 5)) (C := RMo) (T := TMo) (N := 27) hx hb hts inMo hown hK hP 0 rfl rfl 5 (by decide) (hts _ tw_652) (fun _ h9 => h9) rfl dMo_forget_10 ?_
  refine rw_i (y := I 0 5) (by rw [eI1, ui_n _ _ _ (by decide)]) ?_
  refine rw_i (y := nI np) h5 ?_
  refine lv_iconst (v := nI 1) hx hb dMo_forget_13 (by decide +kernel) ?_
  refine lv_isub hx hb dMo_forget_14 ?_
  refine lv_i2l (v := ((nI np) - (nI 1)).toInt64) hx hb dMo_forget_15 rfl ?_
  refine ct_i (va_runS (As := [.long k9.toInt64, .long (lN 0), .long (((nI np) - (nI 1)).toInt64)]) (rest := [.ref (b 0)]) ⟨hx, hb, hml, hown, hts⟩ (kMo_in l dC dI k b I1 D _ k9.toInt64 (lN 0) (((nI np) - (nI 1)).toInt64)) (va_cwS 3 hts (gw_S tw_734 tw_735 tw_9 tw_736) rfl rfl rfl (by decide +kernel) ⟨Nat.le_of_ble_eq_true rfl, Nat.le_of_ble_eq_true rfl⟩) ⟨ct_blind (ev := fun _ => True) (fun _ _ _ _ h => h), ct_now (ev := fun _ => True) (fun _ _ _ => trivial) hP hK hD⟩ rfl rfl hl.1 rfl (lv_room (Nat.le_of_ble_eq_true rfl)) dMo_forget_16 ⟨Nat.le_of_ble_eq_true rfl, Nat.le_of_ble_eq_true rfl⟩) hD hS hA (fun r2 u2 H locs hw2 hP hD hS => ?_)
  by_cases g16 : lN 0 ≤ k9.toInt64 ∧ k9.toInt64 ≤ ((nI np) - (nI 1)).toInt64
  · rw [if_pos g16] at hw2
    subst hw2
    refine rw_i (y := nI 1) rfl ?_
    obtain ⟨x, hx1, rfl⟩ := in_0n (Nat.le_trans hn (by decide)) g16
    refine lv_if_ne (tgt := 26) hx hb dMo_forget_19 (by decide) (fun c19 => ?_) (fun c19 => ?_)
    · have c19 : ¬ 1 = 0 := fun q9 => c19 (show nI 1 = nI 0 from (nI_eq (a := 1) (b := 0) (by omega) (by omega)).mpr q9)
      refine lv_iconst (v := nI 0) hx hb dMo_forget_26 (by decide +kernel) ?_
      refine lv_iconst (v := nI 1) hx hb dMo_forget_27 (by decide +kernel) ?_
      refine ct_i (va_runV (As := [.int (nI 0), .int (nI 1)]) (rest := []) ⟨hx, hb, hml, hown, hts⟩ (kMo_fails0 l dC dI k b I1 D _ (nI 1) (by rw [eI1, ui_s])) (cwV 2 hts (gw_V tw_737 tw_739 sl_Mo_fails tw_9 tw_740) rfl rfl rfl (by decide +kernel) ⟨Nat.le_of_ble_eq_true rfl, Nat.le_of_ble_eq_true rfl⟩) ⟨ct_blind (ev := fun _ => True) (fun _ _ _ _ h => h), va_recv hK hP (ci := 8) (q0 := 0) rfl rfl, ct_now (ev := fun _ => True) (fun _ _ _ => trivial) hP hK hD⟩ rfl rfl hl.1 rfl (lv_room (Nat.le_of_ble_eq_true rfl)) dMo_forget_28 ⟨Nat.le_of_ble_eq_true rfl, Nat.le_of_ble_eq_true rfl⟩) hD hS hA (fun r3 u3 H locs hw3 hP hD hS => ?_)
      subst hw3
      refine lv_if_eq (tgt := 36) hx hb dMo_forget_31 (by decide) (fun c31 => ?_) (fun c31 => ?_)
      · have c31 : 0 = 0 := (nI_eq (a := 0) (b := 0) (by omega) (by omega)).mp (show nI 0 = nI 0 from c31)
        refine lv_aload_n hx hb dMo_forget_36 rfl (lv_at hl 0 rfl) ?_
        refine va_get (D := (dC, dI)) (ci := 8) (v := .ref (b 2)) (C := RMo) (T := TMo) (N := 27) hx hb hts inMo hown hK hP 0 rfl rfl 13 (by decide) (hts _ tw_660) (fun _ h9 => h9) rfl dMo_forget_37 ?_
        refine lv_iload_n hx hb dMo_forget_40 rfl (lv_at hl 1 rfl) ?_
        refine rw_ald_i hx hb hK hP 2 0 rfl rfl (by omega) (by decide) dMo_forget_41 ?_
        refine rw_i (y := I 2 x) (by rw [eI1, ui_o _ _ _ (by decide)]) ?_
        refine lv_istore_n (lv' := [(2, .int (I 2 x)), (0, .ref (b 0)), (1, .int (nI x))]) hx hb dMo_forget_42 rfl hl (by decide) rfl (fun ls hl => ?_)
        refine lv_iload_n hx hb dMo_forget_43 rfl (lv_at hl 2 rfl) ?_
        refine lv_istore_n (lv' := [(3, .int (nI x)), (2, .int (I 2 x)), (0, .ref (b 0)), (1, .int (nI x))]) hx hb dMo_forget_44 rfl hl (by decide) rfl (fun ls hl => ?_)
        have L45 : ∀ (n45 : Nat) (p9 : Nat) (J : Nat → Nat → Int32) (E : Nat → Nat → UInt64), np - 1 - p9 < n45 → x ≤ p9 → p9 ≤ np - 1 → (∀ c, c ≠ 2 → c ≠ 3 → J c = I1 c) → (∀ z, J 2 z = if x ≤ z ∧ z < p9 then I 2 (z + 1) else I 2 z) → (∀ z, J 3 z = if x ≤ z ∧ z < p9 then I 3 (z + 1) else I 3 z) → (∀ c, c ≠ 2 → E c = D c) → (∀ z, E 2 z = if 32 * x ≤ z ∧ z < 32 * p9 then D 2 (z + 32) else D 2 z) → ∀ (H : Heap) (locs : List Loc), va_P (dC, dI) vwCl (wm k b J E) H → va_D A (wm k b J E) → va_S A s.heap H locs → ∀ ls : Array Slot, lv_has ls 5 [(0, .ref (b 0)), (1, .int (nI x)), (2, .int (I 2 x)), (3, .int (nI p9))] → W p l e (headSpec wMo_forget ({ frames := 1, cells := 0, slots := 0, locals := 25 })).room s m [.ref (b 0), .int (nI x)].toArray below meth c H locs 0 0 Q9 (F0 m 45 ls []) := by
          intro n45
          induction n45 with
          | zero => intro p9 J E hm; exact absurd hm (Nat.not_lt_zero _)
          | succ n45 ih45 =>
            intro p9 J E hm45 hp hp2 hJ hJ2 hJ3 hE9 hE2 H locs hP hD hS ls hl
            refine lv_iload_n hx hb dMo_forget_45 rfl (lv_at hl 3 rfl) ?_
            refine lv_aload_n hx hb dMo_forget_46 rfl (lv_at hl 0 rfl) ?_
            refine va_get (D := (dC, dI)) (ci := 8) (v := .int (J 0 5)) (C := RMo) (T := TMo) (N := 27) hx hb hts inMo hown hK hP 0 rfl rfl 5 (by decide) (hts _ tw_652) (fun _ h9 => h9) rfl dMo_forget_47 ?_
            refine rw_i (y := nI np) (by rw [hJ 0 (by decide) (by decide), eI1, ui_n _ _ _ (by decide)]; exact h5) ?_
            refine lv_iconst (v := nI 1) hx hb dMo_forget_50 (by decide +kernel) ?_
            refine lv_isub hx hb dMo_forget_51 ?_
            refine rw_i (y := nI (np - 1)) (pk_sub (by omega)) ?_
            refine lv_icmp_ge (tgt := 131) hx hb dMo_forget_52 (by decide) (fun c52 => ?_) (fun c52 => ?_)
            · have c52 : (np - 1) ≤ p9 := (nI_leI (a := (np - 1)) (b := p9) (by omega) (by omega)).mp (show nI (np - 1) ≤ nI p9 from c52)
              refine lv_aload_n hx hb dMo_forget_131 rfl (lv_at hl 0 rfl) ?_
              refine lv_dup hx hb dMo_forget_132 rfl ?_
              refine va_get (D := (dC, dI)) (ci := 8) (v := .int (J 0 5)) (C := RMo) (T := TMo) (N := 27) hx hb hts inMo hown hK hP 0 rfl rfl 5 (by decide) (hts _ tw_652) (fun _ h9 => h9) rfl dMo_forget_133 ?_
              refine rw_i (y := nI np) (by rw [hJ 0 (by decide) (by decide), eI1, ui_n _ _ _ (by decide)]; exact h5) ?_
              refine lv_iconst (v := nI 1) hx hb dMo_forget_136 (by decide +kernel) ?_
              refine lv_isub hx hb dMo_forget_137 ?_
              refine rw_i (y := nI (np - 1)) (pk_sub (by omega)) ?_
              refine va_put (D := (dC, dI)) (ci := 8) (fs := mo_f b J E) (v := .int (nI (np - 1))) (ty := .int) (C := RMo) (T := TMo) (N := 27) hx hb hts inMo tyMo tyMo_ok nmMo hown hK hP hD hS 0 rfl rfl 5 (by decide) (hts _ tw_652) (fun _ h9 => h9) rfl (by decide +kernel) rfl rfl (Nat.le_of_ble_eq_true rfl) dMo_forget_138 (fun H locs hP hD hS => ?_)
              rw [wm_p5] at hP hD
              obtain ⟨I4, eI4⟩ : ∃ z, z = ui J 0 5 (nI (np - 1)) := ⟨_, rfl⟩
              rw [← eI4] at hP hD
              refine lv_iload_n hx hb dMo_forget_141 rfl (lv_at hl 2 rfl) ?_
              have ep : p9 = np - 1 := by omega
              rw [ep] at hJ2 hJ3 hE2
              have f1 : ∀ c, c ≠ 2 → c ≠ 3 → I4 c = (ui (ui I 0 0 (nI 0)) 0 5 (nI (np - 1))) c := fun c z2 z3 => by
                by_cases z : c = 0
                · subst z; rw [eI4, ui_c, ui_c, hJ 0 (by decide) (by decide), eI1]
                · rw [eI4, ui_o _ _ _ z, ui_o _ _ _ z, hJ c z2 z3, eI1]
              have f2 : ∀ z, I4 2 z = if x ≤ z ∧ z < np - 1 then I 2 (z + 1) else I 2 z := fun z => by rw [eI4, ui_o _ _ _ (by decide)]; exact hJ2 z
              have f3 : ∀ z, I4 3 z = if x ≤ z ∧ z < np - 1 then I 3 (z + 1) else I 3 z := fun z => by rw [eI4, ui_o _ _ _ (by decide)]; exact hJ3 z
              rw [hQ9]
              exact ct_ri hx hb hr hlocks (I4, E) (Or.inr ⟨x, hx1, rfl, rfl, f1, f2, f3, hE9, hE2⟩) hP hD hS (Nat.le_refl _) (Nat.le_refl _) dMo_forget_142
            · have c52 : ¬ (np - 1) ≤ p9 := fun q9 => c52 (show nI (np - 1) ≤ nI p9 from (nI_leI (a := (np - 1)) (b := p9) (by omega) (by omega)).mpr q9)
              refine lv_aload_n hx hb dMo_forget_55 rfl (lv_at hl 0 rfl) ?_
              refine va_get (D := (dC, dI)) (ci := 8) (v := .ref (b 2)) (C := RMo) (T := TMo) (N := 27) hx hb hts inMo hown hK hP 0 rfl rfl 13 (by decide) (hts _ tw_660) (fun _ h9 => h9) rfl dMo_forget_56 ?_
              refine lv_iload_n hx hb dMo_forget_59 rfl (lv_at hl 3 rfl) ?_
              refine lv_aload_n hx hb dMo_forget_60 rfl (lv_at hl 0 rfl) ?_
              refine va_get (D := (dC, dI)) (ci := 8) (v := .ref (b 2)) (C := RMo) (T := TMo) (N := 27) hx hb hts inMo hown hK hP 0 rfl rfl 13 (by decide) (hts _ tw_660) (fun _ h9 => h9) rfl dMo_forget_61 ?_
              refine lv_iload_n hx hb dMo_forget_64 rfl (lv_at hl 3 rfl) ?_
              refine lv_iconst (v := nI 1) hx hb dMo_forget_65 (by decide +kernel) ?_
              refine lv_iadd hx hb dMo_forget_66 ?_
              refine rw_i (y := nI (p9 + 1)) (nI_add _ _) ?_
              refine rw_ald_i hx hb hK hP 2 0 rfl rfl (by omega) (by decide) dMo_forget_67 ?_
              refine rw_i (y := I 2 (p9 + 1)) (by rw [hJ2, if_neg (by omega)]) ?_
              refine rw_ast_i hx hb hK hP hD hS 2 0 rfl rfl (by omega) (by decide) dMo_forget_68 (fun H locs hP hD hS => ?_)
              rw [wm_a2] at hP hD
              obtain ⟨I5, eI5⟩ : ∃ z, z = ui J 2 p9 (I 2 (p9 + 1)) := ⟨_, rfl⟩
              rw [← eI5] at hP hD
              refine lv_aload_n hx hb dMo_forget_69 rfl (lv_at hl 0 rfl) ?_
              refine va_get (D := (dC, dI)) (ci := 8) (v := .ref (b 3)) (C := RMo) (T := TMo) (N := 27) hx hb hts inMo hown hK hP 0 rfl rfl 14 (by decide) (hts _ tw_661) (fun _ h9 => h9) rfl dMo_forget_70 ?_
              refine lv_iload_n hx hb dMo_forget_73 rfl (lv_at hl 3 rfl) ?_
              refine lv_aload_n hx hb dMo_forget_74 rfl (lv_at hl 0 rfl) ?_
              refine va_get (D := (dC, dI)) (ci := 8) (v := .ref (b 3)) (C := RMo) (T := TMo) (N := 27) hx hb hts inMo hown hK hP 0 rfl rfl 14 (by decide) (hts _ tw_661) (fun _ h9 => h9) rfl dMo_forget_75 ?_
              refine lv_iload_n hx hb dMo_forget_78 rfl (lv_at hl 3 rfl) ?_
              refine lv_iconst (v := nI 1) hx hb dMo_forget_79 (by decide +kernel) ?_
              refine lv_iadd hx hb dMo_forget_80 ?_
              refine rw_i (y := nI (p9 + 1)) (nI_add _ _) ?_
              refine rw_ald_i hx hb hK hP 3 0 rfl rfl (by omega) (by decide) dMo_forget_81 ?_
              refine rw_i (y := J 3 (p9 + 1)) (by rw [eI5, ui_o _ _ _ (by decide)]) ?_
              refine rw_i (y := I 3 (p9 + 1)) (by rw [hJ3, if_neg (by omega)]) ?_
              refine rw_ast_i hx hb hK hP hD hS 3 0 rfl rfl (by omega) (by decide) dMo_forget_82 (fun H locs hP hD hS => ?_)
              rw [wm_a3] at hP hD
              obtain ⟨I6, eI6⟩ : ∃ z, z = ui I5 3 p9 (I 3 (p9 + 1)) := ⟨_, rfl⟩
              rw [← eI6] at hP hD
              refine lv_iconst (v := nI 0) hx hb dMo_forget_83 (by decide +kernel) ?_
              refine lv_istore (lv' := [(4, .int (nI 0)), (0, .ref (b 0)), (1, .int (nI x)), (2, .int (I 2 x)), (3, .int (nI p9))]) hx hb dMo_forget_84 hl (by decide) rfl (fun ls hl => ?_)
              have L86 : ∀ (n86 : Nat) (i : Nat) (F : Nat → Nat → UInt64), 32 - i < n86 → i ≤ 32 → (∀ c, c ≠ 2 → F c = D c) → (∀ z, F 2 z = if 32 * x ≤ z ∧ z < 32 * p9 + i then D 2 (z + 32) else D 2 z) → ∀ (H : Heap) (locs : List Loc), va_P (dC, dI) vwCl (wm k b I6 F) H → va_D A (wm k b I6 F) → va_S A s.heap H locs → ∀ ls : Array Slot, lv_has ls 5 [(0, .ref (b 0)), (1, .int (nI x)), (2, .int (I 2 x)), (3, .int (nI p9)), (4, .int (nI i))] → W p l e (headSpec wMo_forget ({ frames := 1, cells := 0, slots := 0, locals := 25 })).room s m [.ref (b 0), .int (nI x)].toArray below meth c H locs 0 0 Q9 (F0 m 86 ls []) := by
                intro n86
                induction n86 with
                | zero => intro i F hm; exact absurd hm (Nat.not_lt_zero _)
                | succ n86 ih86 =>
                  intro i F hm86 hi hF hF2 H locs hP hD hS ls hl
                  refine lv_iload hx hb dMo_forget_86 (lv_at hl 4 rfl) ?_
                  refine lv_bipush (v := nI 32) hx hb dMo_forget_88 (by decide +kernel) ?_
                  refine lv_icmp_ge (tgt := 125) hx hb dMo_forget_90 (by decide) (fun c90 => ?_) (fun c90 => ?_)
                  · have c90 : 32 ≤ i := (nI_leI (a := 32) (b := i) (by omega) (by omega)).mp (show nI 32 ≤ nI i from c90)
                    refine lv_iinc (v := nI (p9 + 1)) (lv' := [(3, .int (nI (p9 + 1))), (0, .ref (b 0)), (1, .int (nI x)), (2, .int (I 2 x)), (4, .int (nI i))]) hx hb dMo_forget_125 hl (k := 3) rfl (nI_1 _) (by decide) rfl (fun ls hl => ?_)
                    refine lv_goto (tgt := 45) hx hb dMo_forget_128 (by decide) ?_
                    have k1 : ∀ c, c ≠ 2 → c ≠ 3 → I6 c = I1 c := fun c z2 z3 => by rw [eI6, ui_o _ _ _ z3, eI5, ui_o _ _ _ z2]; exact hJ c z2 z3
                    have k2 : ∀ z, I6 2 z = if x ≤ z ∧ z < p9 + 1 then I 2 (z + 1) else I 2 z := fun z => by
                      rw [eI6, ui_o _ _ _ (by decide), eI5]
                      by_cases e9 : z = p9
                      · subst e9; rw [ui_s, if_pos (by omega)]
                      · rw [ui_n _ _ _ e9, hJ2]; by_cases e8 : x ≤ z ∧ z < p9
                        · rw [if_pos e8, if_pos (by omega)]
                        · rw [if_neg e8, if_neg (by omega)]
                    have k3 : ∀ z, I6 3 z = if x ≤ z ∧ z < p9 + 1 then I 3 (z + 1) else I 3 z := fun z => by
                      rw [eI6]
                      by_cases e9 : z = p9
                      · subst e9; rw [ui_s, if_pos (by omega)]
                      · rw [ui_n _ _ _ e9, eI5, ui_o _ _ _ (by decide), hJ3]; by_cases e8 : x ≤ z ∧ z < p9
                        · rw [if_pos e8, if_pos (by omega)]
                        · rw [if_neg e8, if_neg (by omega)]
                    exact ih45 (p9 + 1) I6 F (by omega) (by omega) (by omega) k1 k2 k3 hF (fun z => by rw [hF2, show 32 * p9 + i = 32 * (p9 + 1) by omega]) _ _ hP hD hS ls (lv_sub hl [1, 2, 3, 0] rfl)
                  · have c90 : ¬ 32 ≤ i := fun q9 => c90 (show nI 32 ≤ nI i from (nI_leI (a := 32) (b := i) (by omega) (by omega)).mpr q9)
                    refine lv_aload_n hx hb dMo_forget_93 rfl (lv_at hl 0 rfl) ?_
                    refine va_get (D := (dC, dI)) (ci := 8) (v := .ref (b 9)) (C := RMo) (T := TMo) (N := 27) hx hb hts inMo hown hK hP 0 rfl rfl 20 (by decide) (hts _ tw_667) (fun _ h9 => h9) rfl dMo_forget_94 ?_
                    refine lv_bipush (v := nI 32) hx hb dMo_forget_97 (by decide +kernel) ?_
                    refine lv_iload_n hx hb dMo_forget_99 rfl (lv_at hl 3 rfl) ?_
                    refine lv_imul hx hb dMo_forget_100 ?_
                    refine rw_i (y := nI (32 * p9)) (pk_mul _ _) ?_
                    refine lv_iload hx hb dMo_forget_101 (lv_at hl 4 rfl) ?_
                    refine lv_iadd hx hb dMo_forget_103 ?_
                    refine rw_i (y := nI ((32 * p9) + i)) (nI_add _ _) ?_
                    refine lv_aload_n hx hb dMo_forget_104 rfl (lv_at hl 0 rfl) ?_
                    refine va_get (D := (dC, dI)) (ci := 8) (v := .ref (b 9)) (C := RMo) (T := TMo) (N := 27) hx hb hts inMo hown hK hP 0 rfl rfl 20 (by decide) (hts _ tw_667) (fun _ h9 => h9) rfl dMo_forget_105 ?_
                    refine lv_bipush (v := nI 32) hx hb dMo_forget_108 (by decide +kernel) ?_
                    refine lv_iload_n hx hb dMo_forget_110 rfl (lv_at hl 3 rfl) ?_
                    refine lv_iconst (v := nI 1) hx hb dMo_forget_111 (by decide +kernel) ?_
                    refine lv_iadd hx hb dMo_forget_112 ?_
                    refine rw_i (y := nI (p9 + 1)) (nI_add _ _) ?_
                    refine lv_imul hx hb dMo_forget_113 ?_
                    refine rw_i (y := nI (32 * (p9 + 1))) (pk_mul _ _) ?_
                    refine lv_iload hx hb dMo_forget_114 (lv_at hl 4 rfl) ?_
                    refine lv_iadd hx hb dMo_forget_116 ?_
                    refine rw_i (y := nI ((32 * (p9 + 1)) + i)) (nI_add _ _) ?_
                    refine rw_ald_d hx hb hK hP 9 1 rfl rfl (by omega) (by decide) dMo_forget_117 ?_
                    refine rw_d (y := D 2 (32 * p9 + i + 32)) (by rw [hF2, if_neg (by omega)]; exact congrArg (D 2) (by omega)) ?_
                    refine rw_ast_d hx hb hK hP hD hS 9 1 rfl rfl (by omega) (by decide) dMo_forget_118 (fun H locs hP hD hS => ?_)
                    rw [wm_a9] at hP hD
                    obtain ⟨D7, eD7⟩ : ∃ z, z = ud F 2 ((32 * p9) + i) (D 2 (32 * p9 + i + 32)) := ⟨_, rfl⟩
                    rw [← eD7] at hP hD
                    refine lv_iinc (v := nI (i + 1)) (lv' := [(4, .int (nI (i + 1))), (0, .ref (b 0)), (1, .int (nI x)), (2, .int (I 2 x)), (3, .int (nI p9))]) hx hb dMo_forget_119 hl (k := 4) rfl (nI_1 _) (by decide) rfl (fun ls hl => ?_)
                    refine lv_goto (tgt := 86) hx hb dMo_forget_122 (by decide) ?_
                    have f1 : ∀ c, c ≠ 2 → D7 c = D c := fun c z2 => by rw [eD7, ud_o _ _ _ z2]; exact hF c z2
                    have f2 : ∀ z, D7 2 z = if 32 * x ≤ z ∧ z < 32 * p9 + (i + 1) then D 2 (z + 32) else D 2 z := fun z => by
                      rw [eD7]
                      by_cases e9 : z = 32 * p9 + i
                      · subst e9; rw [ud_s, if_pos (by omega)]
                      · rw [ud_n _ _ _ e9, hF2]; by_cases e8 : 32 * x ≤ z ∧ z < 32 * p9 + i
                        · rw [if_pos e8, if_pos (by omega)]
                        · rw [if_neg e8, if_neg (by omega)]
                    exact ih86 (i + 1) D7 (by omega) (by omega) f1 f2 _ _ hP hD hS ls (lv_sub hl [1, 2, 3, 4, 0] rfl)
              exact L86 _ 0 E (Nat.lt_succ_self _) (by omega) hE9 (fun z => by rw [hE2, show 32 * p9 + 0 = 32 * p9 from rfl]) _ _ hP hD hS ls (lv_sub hl [1, 2, 3, 4, 0] rfl)
        exact L45 _ x I1 D (Nat.lt_succ_self _) (by omega) (by omega) (fun c z2 z3 => rfl) (fun z => by rw [if_neg (by omega), eI1, ui_o _ _ _ (by decide)]) (fun z => by rw [if_neg (by omega), eI1, ui_o _ _ _ (by decide)]) (fun c z2 => rfl) (fun z => by rw [if_neg (by omega)]) _ _ hP hD hS ls (lv_sub hl [2, 3, 1, 0] rfl)
      · have c31 : ¬ 0 = 0 := fun q9 => c31 (show nI 0 = nI 0 from (nI_eq (a := 0) (b := 0) (by omega) (by omega)).mpr q9)
        exact absurd (by decide) c31
    · have c19 : 1 = 0 := (nI_eq (a := 1) (b := 0) (by omega) (by omega)).mp (show nI 1 = nI 0 from c19)
      exact absurd c19 (by decide)
  · rw [if_neg g16] at hw2
    subst hw2
    refine rw_i (y := nI 0) rfl ?_
    refine lv_if_ne (tgt := 26) hx hb dMo_forget_19 (by decide) (fun c19 => ?_) (fun c19 => ?_)
    · have c19 : ¬ 0 = 0 := fun q9 => c19 (show nI 0 = nI 0 from (nI_eq (a := 0) (b := 0) (by omega) (by omega)).mpr q9)
      exact absurd (by decide) c19
    · have c19 : 0 = 0 := (nI_eq (a := 0) (b := 0) (by omega) (by omega)).mp (show nI 0 = nI 0 from c19)
      refine lv_iconst (v := nI 1) hx hb dMo_forget_22 (by decide +kernel) ?_
      refine lv_goto (tgt := 27) hx hb dMo_forget_23 (by decide) ?_
      refine lv_iconst (v := nI 1) hx hb dMo_forget_27 (by decide +kernel) ?_
      refine ct_i (va_runV (As := [.int (nI 1), .int (nI 1)]) (rest := []) ⟨hx, hb, hml, hown, hts⟩ (kMo_fails1 l dC dI k b I1 D _ 1 (by omega) (by omega) (by rw [eI1, ui_s])) (cwV 2 hts (gw_V tw_737 tw_739 sl_Mo_fails tw_9 tw_740) rfl rfl rfl (by decide +kernel) ⟨Nat.le_of_ble_eq_true rfl, Nat.le_of_ble_eq_true rfl⟩) ⟨ct_blind (ev := fun _ => True) (fun _ _ _ _ h => h), va_recv hK hP (ci := 8) (q0 := 0) rfl rfl, ct_now (ev := fun _ => True) (fun _ _ _ => trivial) hP hK hD⟩ rfl rfl hl.1 rfl (lv_room (Nat.le_of_ble_eq_true rfl)) dMo_forget_28 ⟨Nat.le_of_ble_eq_true rfl, Nat.le_of_ble_eq_true rfl⟩) hD hS hA (fun r8 u8 H locs hw8 hP hD hS => ?_)
      obtain ⟨r8e, eu8⟩ := hw8
      subst r8e
      refine lv_if_eq (tgt := 36) hx hb dMo_forget_31 (by decide) (fun c31 => ?_) (fun c31 => ?_)
      · have c31 : 1 = 0 := (nI_eq (a := 1) (b := 0) (by omega) (by omega)).mp (show nI 1 = nI 0 from c31)
        exact absurd c31 (by decide)
      · have c31 : ¬ 1 = 0 := fun q9 => c31 (show nI 1 = nI 0 from (nI_eq (a := 1) (b := 0) (by omega) (by omega)).mpr q9)
        refine lv_iconst (v := nI 0) hx hb dMo_forget_34 (by decide +kernel) ?_
        rw [hQ9]
        exact ct_ri hx hb hr hlocks (u8, D) (Or.inl ⟨fun z => g16 (in_n0 (Nat.le_trans hn (by decide)) z), by rw [eu8, eI1]⟩) hP hD hS (Nat.le_refl _) (Nat.le_refl _) dMo_forget_35
