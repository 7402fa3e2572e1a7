set_option maxHeartbeats 4000000 in
set_option maxRecDepth 100000 in
theorem kMo_wave (l : Launch) (dC : Nat → ClassId) (dI : Nat → Nat → Nat) (k : Nat → ClassId) (b : Nat → Nat) (I : Nat → Nat → Int32) (D : Nat → Nat → UInt64) (sz : Nat) (n st : Int32) (a : UInt64) (ha : fb_ 1055 a) (ns : Nat) (hn : ns ≤ 320) (h3 : I 0 3 = nI ns) (hc : ∀ j, j < 32 → D 7 j = hd_C j) : Met l yMo_wave wMo_wave ({ frames := 1, cells := 0, slots := 0, locals := 25 }) (va_Pc [.ref (b 0), .int n, .int st, .double a] (ct_pre (dC, dI) (mo_ty k) (fun _ => True) (wm k b I D) sz)) (va_Qi (fun r (u : (Nat → Nat → Int32) × (Nat → Nat → UInt64)) => ((¬ ((∃ q, 1 ≤ q ∧ q ≤ 64 ∧ n = nI q) ∧ ∃ sp, 0 ≤ sp ∧ sp ≤ 31 ∧ st = nI sp)) ∧ u = (ui (ui I 0 0 (nI 0)) 0 0 (nI 1), D)) ∨ (∃ q, 1 ≤ q ∧ q ≤ 64 ∧ n = nI q ∧ ∃ sp, 0 ≤ sp ∧ sp ≤ 31 ∧ st = nI sp ∧ ((320 < ns + q ∧ u = (ui (ui I 0 0 (nI 0)) 0 0 (nI 2), D)) ∨ (ns + q ≤ 320 ∧ r = nI (ns + q) ∧ u = (ui (ui I 0 0 (nI 0)) 0 3 (nI (ns + q)), hd_wr D 1 ns sp a q))))) (fun u t => ct_at (dC, dI) (va_A (wm k b I D) sz) ((fun u => wm k b u.1 u.2) u) t) (va_A (wm k b I D) sz)) 0 0 (va_A (wm k b I D) sz) := by
  refine Met.ofW (cc := cMo_wave) (maxL := 6) (ret := (some .int)) (by decide) rfl ?_
  intro p e s m args below meth c s₁ B hml hv
  obtain ⟨rfl, hsz, hP, hK, hD0, hE⟩ := hv
  have hx := B.exec
  have hb := B.bytes
  have hr := B.returns
  have hts : ∀ w ∈ W0, w.before [.ref (b 0), .int n, .int st, .double a].toArray s = true := fun w h => atoms_spec (ws := wMo_wave) B.pre w (List.mem_cons_of_mem _ h)
  have hown : s.vm.findClass RMo = some m.cls := findClass_of_methodNamed B.named
  have hlocks := B.notSynchronized
  subst hsz
  have hD := hD0.self (sz := s.heap.size)
  generalize hAe : va_A (wm k b I D) s.heap.size = A at hD ⊢
  have hA : ∀ q : Nat, s.heap.size ≤ q → A q := fun q h => by rw [← hAe]; exact Or.inr h
  have hS : va_S A s.heap s.heap [] := va_S.rf
  have hl := lv_entry ([.ref (b 0), .int n, .int st, .double a]) (n := 6) (Nat.le_of_ble_eq_true rfl)
  rw [lg_entry_eq]
  generalize (lg_sl ([.ref (b 0), .int n, .int st, .double a]) ++ List.replicate (6 - (lg_sl ([.ref (b 0), .int n, .int st, .double a])).length) Slot.unset).toArray = ls at hl ⊢
  have hl : lv_has ls 6 [(0, .ref (b 0)), (1, .int n), (2, .int st), (3, .double a)] := hl
  refine lp_q (fun Q9 hQ9 => ?_)
  refine lv_aload_n hx hb dMo_wave_0 rfl (lv_at hl 0 rfl) ?_
  refine lv_iconst (v := nI 0) hx hb dMo_wave_1 (by decide +kernel) ?_
  refine va_put (D := (dC, dI)) (ci := 8) (fs := mo_f b I D) (v := .int (nI 0)) (ty := .int) (C := RMo) (T := TMo) (N := 27) hx hb hts inMo tyMo tyMo_ok nmMo hown hK hP hD hS 0 rfl rfl 0 (by decide) (hts _ tw_647) (fun _ h9 => h9) rfl (by decide +kernel) rfl rfl (Nat.le_of_ble_eq_true rfl) dMo_wave_2 (fun H locs hP hD hS => ?_)
  rw [wm_p0] at hP hD
  obtain ⟨I1, eI1⟩ : ∃ z, z = ui I 0 0 (nI 0) := ⟨_, rfl⟩
  rw [← eI1] at hP hD
  refine lv_aload_n hx hb dMo_wave_5 rfl (lv_at hl 0 rfl) ?_
  refine lv_iload_n hx hb dMo_wave_6 rfl (lv_at hl 1 rfl) ?_
  refine lv_i2l (v := n.toInt64) hx hb dMo_wave_7 rfl ?_
  refine lv_lconst (v := lN 1) hx hb dMo_wave_8 (by decide +kernel) ?_
  refine lv_ldc2 (v := 64) hx hb hown (hts _ tw_776) dMo_wave_9 ?_
  refine rw_l (y := lN 64) (by decide +kernel) ?_
  refine ct_i (va_runS (As := [.long n.toInt64, .long (lN 1), .long (lN 64)]) (rest := [.ref (b 0)]) ⟨hx, hb, hml, hown, hts⟩ (kMo_in l dC dI k b I1 D _ n.toInt64 (lN 1) (lN 64)) (va_cwS 3 hts (gw_S tw_734 tw_735 tw_9 tw_736) rfl rfl rfl (by decide +kernel) ⟨Nat.le_of_ble_eq_true rfl, Nat.le_of_ble_eq_true rfl⟩) ⟨ct_blind (ev := fun _ => True) (fun _ _ _ _ h => h), ct_now (ev := fun _ => True) (fun _ _ _ => trivial) hP hK hD⟩ rfl rfl hl.1 rfl (lv_room (Nat.le_of_ble_eq_true rfl)) dMo_wave_12 ⟨Nat.le_of_ble_eq_true rfl, Nat.le_of_ble_eq_true rfl⟩) hD hS hA (fun r2 u2 H locs hw2 hP hD hS => ?_)
  by_cases g12 : lN 1 ≤ n.toInt64 ∧ n.toInt64 ≤ lN 64
  · rw [if_pos g12] at hw2
    subst hw2
    refine rw_i (y := nI 1) rfl ?_
    obtain ⟨q, q1, q2, rfl⟩ := in_ab (by decide) (by decide) g12
    refine lv_if_eq (tgt := 30) hx hb dMo_wave_15 (by decide) (fun c15 => ?_) (fun c15 => ?_)
    · have c15 : 1 = 0 := (nI_eq (a := 1) (b := 0) (by omega) (by omega)).mp (show nI 1 = nI 0 from c15)
      exact absurd c15 (by decide)
    · have c15 : ¬ 1 = 0 := fun q9 => c15 (show nI 1 = nI 0 from (nI_eq (a := 1) (b := 0) (by omega) (by omega)).mpr q9)
      refine lv_iload_n hx hb dMo_wave_18 rfl (lv_at hl 2 rfl) ?_
      refine lv_i2l (v := st.toInt64) hx hb dMo_wave_19 rfl ?_
      refine lv_lconst (v := lN 0) hx hb dMo_wave_20 (by decide +kernel) ?_
      refine lv_ldc2 (v := 31) hx hb hown (hts _ tw_777) dMo_wave_21 ?_
      refine rw_l (y := lN 31) (by decide +kernel) ?_
      refine ct_i (va_runS (As := [.long st.toInt64, .long (lN 0), .long (lN 31)]) (rest := [.ref (b 0)]) ⟨hx, hb, hml, hown, hts⟩ (kMo_in l dC dI k b I1 D _ st.toInt64 (lN 0) (lN 31)) (va_cwS 3 hts (gw_S tw_734 tw_735 tw_9 tw_736) rfl rfl rfl (by decide +kernel) ⟨Nat.le_of_ble_eq_true rfl, Nat.le_of_ble_eq_true rfl⟩) ⟨ct_blind (ev := fun _ => True) (fun _ _ _ _ h => h), ct_now (ev := fun _ => True) (fun _ _ _ => trivial) hP hK hD⟩ rfl rfl hl.1 rfl (lv_room (Nat.le_of_ble_eq_true rfl)) dMo_wave_24 ⟨Nat.le_of_ble_eq_true rfl, Nat.le_of_ble_eq_true rfl⟩) hD hS hA (fun r3 u3 H locs hw3 hP hD hS => ?_)
      by_cases g24 : lN 0 ≤ st.toInt64 ∧ st.toInt64 ≤ lN 31
      · rw [if_pos g24] at hw3
        subst hw3
        refine rw_i (y := nI 1) rfl ?_
        obtain ⟨sp, s1, s2, rfl⟩ := in_ab (by decide) (by decide) g24
        refine lv_if_ne (tgt := 34) hx hb dMo_wave_27 (by decide) (fun c27 => ?_) (fun c27 => ?_)
        · have c27 : ¬ 1 = 0 := fun q9 => c27 (show nI 1 = nI 0 from (nI_eq (a := 1) (b := 0) (by omega) (by omega)).mpr q9)
          refine lv_iconst (v := nI 0) hx hb dMo_wave_34 (by decide +kernel) ?_
          refine lv_iconst (v := nI 1) hx hb dMo_wave_35 (by decide +kernel) ?_
          refine ct_i (va_runV (As := [.int (nI 0), .int (nI 1)]) (rest := []) ⟨hx, hb, hml, hown, hts⟩ (kMo_fails0 l dC dI k b I1 D _ (nI 1) (by rw [eI1, ui_s])) (cwV 2 hts (gw_V tw_737 tw_739 sl_Mo_fails tw_9 tw_740) rfl rfl rfl (by decide +kernel) ⟨Nat.le_of_ble_eq_true rfl, Nat.le_of_ble_eq_true rfl⟩) ⟨ct_blind (ev := fun _ => True) (fun _ _ _ _ h => h), va_recv hK hP (ci := 8) (q0 := 0) rfl rfl, ct_now (ev := fun _ => True) (fun _ _ _ => trivial) hP hK hD⟩ rfl rfl hl.1 rfl (lv_room (Nat.le_of_ble_eq_true rfl)) dMo_wave_36 ⟨Nat.le_of_ble_eq_true rfl, Nat.le_of_ble_eq_true rfl⟩) hD hS hA (fun r4 u4 H locs hw4 hP hD hS => ?_)
          subst hw4
          refine lv_if_ne (tgt := 67) hx hb dMo_wave_39 (by decide) (fun c39 => ?_) (fun c39 => ?_)
          · have c39 : ¬ 0 = 0 := fun q9 => c39 (show nI 0 = nI 0 from (nI_eq (a := 0) (b := 0) (by omega) (by omega)).mpr q9)
            exact absurd (by decide) c39
          · have c39 : 0 = 0 := (nI_eq (a := 0) (b := 0) (by omega) (by omega)).mp (show nI 0 = nI 0 from c39)
            refine lv_aload_n hx hb dMo_wave_42 rfl (lv_at hl 0 rfl) ?_
            refine lv_aload_n hx hb dMo_wave_43 rfl (lv_at hl 0 rfl) ?_
            refine va_get (D := (dC, dI)) (ci := 8) (v := .int (I1 0 3)) (C := RMo) (T := TMo) (N := 27) hx hb hts inMo hown hK hP 0 rfl rfl 3 (by decide) (hts _ tw_650) (fun _ h9 => h9) rfl dMo_wave_44 ?_
            refine rw_i (y := I 0 3) (by rw [eI1, ui_n _ _ _ (by decide)]) ?_
            refine rw_i (y := nI ns) h3 ?_
            refine lv_iload_n hx hb dMo_wave_47 rfl (lv_at hl 1 rfl) ?_
            refine lv_iadd hx hb dMo_wave_48 ?_
            refine rw_i (y := nI (ns + q)) (nI_add _ _) ?_
            refine lv_sipush (v := nI 320) hx hb dMo_wave_49 (by decide +kernel) ?_
            refine lv_icmp_le (tgt := 59) hx hb dMo_wave_52 (by decide) (fun c52 => ?_) (fun c52 => ?_)
            · have c52 : (ns + q) ≤ 320 := (nI_leI (a := (ns + q)) (b := 320) (by omega) (by omega)).mp (show nI (ns + q) ≤ nI 320 from c52)
              refine lv_iconst (v := nI 0) hx hb dMo_wave_59 (by decide +kernel) ?_
              refine lv_iconst (v := nI 2) hx hb dMo_wave_60 (by decide +kernel) ?_
              refine ct_i (va_runV (As := [.int (nI 0), .int (nI 2)]) (rest := []) ⟨hx, hb, hml, hown, hts⟩ (kMo_fails0 l dC dI k b I1 D _ (nI 2) (by rw [eI1, ui_s])) (cwV 2 hts (gw_V tw_737 tw_739 sl_Mo_fails tw_9 tw_740) rfl rfl rfl (by decide +kernel) ⟨Nat.le_of_ble_eq_true rfl, Nat.le_of_ble_eq_true rfl⟩) ⟨ct_blind (ev := fun _ => True) (fun _ _ _ _ h => h), va_recv hK hP (ci := 8) (q0 := 0) rfl rfl, ct_now (ev := fun _ => True) (fun _ _ _ => trivial) hP hK hD⟩ rfl rfl hl.1 rfl (lv_room (Nat.le_of_ble_eq_true rfl)) dMo_wave_61 ⟨Nat.le_of_ble_eq_true rfl, Nat.le_of_ble_eq_true rfl⟩) hD hS hA (fun r5 u5 H locs hw5 hP hD hS => ?_)
              subst hw5
              refine lv_if_eq (tgt := 69) hx hb dMo_wave_64 (by decide) (fun c64 => ?_) (fun c64 => ?_)
              · have c64 : 0 = 0 := (nI_eq (a := 0) (b := 0) (by omega) (by omega)).mp (show nI 0 = nI 0 from c64)
                refine lv_iconst (v := nI 0) hx hb dMo_wave_69 (by decide +kernel) ?_
                refine lv_istore (lv' := [(5, .int (nI 0)), (0, .ref (b 0)), (1, .int (nI q)), (2, .int (nI sp)), (3, .double a)]) hx hb dMo_wave_70 hl (by decide) rfl (fun ls hl => ?_)
                have L72 : ∀ (n72 : Nat) (j : Nat), q - j < n72 → j ≤ q → ∀ (H : Heap) (locs : List Loc), va_P (dC, dI) vwCl (wm k b I1 (hd_wr D 1 ns sp a j)) H → va_D A (wm k b I1 (hd_wr D 1 ns sp a j)) → va_S A s.heap H locs → ∀ ls : Array Slot, lv_has ls 6 [(0, .ref (b 0)), (1, .int (nI q)), (2, .int (nI sp)), (3, .double a), (5, .int (nI j))] → W p l e (headSpec wMo_wave ({ frames := 1, cells := 0, slots := 0, locals := 25 })).room s m [.ref (b 0), .int (nI q), .int (nI sp), .double a].toArray below meth c H locs 0 0 Q9 (F0 m 72 ls []) := by
                  intro n72
                  induction n72 with
                  | zero => intro j hm; exact absurd hm (Nat.not_lt_zero _)
                  | succ n72 ih72 =>
                    intro j hm72 hj H locs hP hD hS ls hl
                    refine lv_iload hx hb dMo_wave_72 (lv_at hl 4 rfl) ?_
                    refine lv_iload_n hx hb dMo_wave_74 rfl (lv_at hl 1 rfl) ?_
                    refine lv_icmp_ge (tgt := 110) hx hb dMo_wave_75 (by decide) (fun c75 => ?_) (fun c75 => ?_)
                    · have c75 : q ≤ j := (nI_leI (a := q) (b := j) (by omega) (by omega)).mp (show nI q ≤ nI j from c75)
                      obtain rfl : j = q := by omega
                      refine lv_aload_n hx hb dMo_wave_110 rfl (lv_at hl 0 rfl) ?_
                      refine lv_dup hx hb dMo_wave_111 rfl ?_
                      refine va_get (D := (dC, dI)) (ci := 8) (v := .int (I1 0 3)) (C := RMo) (T := TMo) (N := 27) hx hb hts inMo hown hK hP 0 rfl rfl 3 (by decide) (hts _ tw_650) (fun _ h9 => h9) rfl dMo_wave_112 ?_
                      refine rw_i (y := I 0 3) (by rw [eI1, ui_n _ _ _ (by decide)]) ?_
                      refine rw_i (y := nI ns) h3 ?_
                      refine lv_iload_n hx hb dMo_wave_115 rfl (lv_at hl 1 rfl) ?_
                      refine lv_iadd hx hb dMo_wave_116 ?_
                      refine rw_i (y := nI (ns + j)) (nI_add _ _) ?_
                      refine va_put (D := (dC, dI)) (ci := 8) (fs := mo_f b I1 (hd_wr D 1 ns sp a j)) (v := .int (nI (ns + j))) (ty := .int) (C := RMo) (T := TMo) (N := 27) hx hb hts inMo tyMo tyMo_ok nmMo hown hK hP hD hS 0 rfl rfl 3 (by decide) (hts _ tw_650) (fun _ h9 => h9) rfl (by decide +kernel) rfl rfl (Nat.le_of_ble_eq_true rfl) dMo_wave_117 (fun H locs hP hD hS => ?_)
                      rw [wm_p3] at hP hD
                      obtain ⟨I6, eI6⟩ : ∃ z, z = ui I1 0 3 (nI (ns + j)) := ⟨_, rfl⟩
                      rw [← eI6] at hP hD
                      refine lv_aload_n hx hb dMo_wave_120 rfl (lv_at hl 0 rfl) ?_
                      refine va_get (D := (dC, dI)) (ci := 8) (v := .int (I6 0 3)) (C := RMo) (T := TMo) (N := 27) hx hb hts inMo hown hK hP 0 rfl rfl 3 (by decide) (hts _ tw_650) (fun _ h9 => h9) rfl dMo_wave_121 ?_
                      refine rw_i (y := nI (ns + j)) (by rw [eI6, ui_s]) ?_
                      rw [hQ9]
                      exact ct_ri hx hb hr hlocks (I6, (hd_wr D 1 ns sp a j)) (Or.inr ⟨j, q1, q2, rfl, sp, s1, s2, rfl, Or.inr ⟨by omega, rfl, by rw [eI6, eI1]⟩⟩) hP hD hS (Nat.le_refl _) (Nat.le_refl _) dMo_wave_124
                    · have c75 : ¬ q ≤ j := fun q9 => c75 (show nI q ≤ nI j from (nI_leI (a := q) (b := j) (by omega) (by omega)).mpr q9)
                      refine lv_aload_n hx hb dMo_wave_78 rfl (lv_at hl 0 rfl) ?_
                      refine va_get (D := (dC, dI)) (ci := 8) (v := .ref (b 8)) (C := RMo) (T := TMo) (N := 27) hx hb hts inMo hown hK hP 0 rfl rfl 19 (by decide) (hts _ tw_666) (fun _ h9 => h9) rfl dMo_wave_79 ?_
                      refine lv_aload_n hx hb dMo_wave_82 rfl (lv_at hl 0 rfl) ?_
                      refine va_get (D := (dC, dI)) (ci := 8) (v := .int (I1 0 3)) (C := RMo) (T := TMo) (N := 27) hx hb hts inMo hown hK hP 0 rfl rfl 3 (by decide) (hts _ tw_650) (fun _ h9 => h9) rfl dMo_wave_83 ?_
                      refine rw_i (y := I 0 3) (by rw [eI1, ui_n _ _ _ (by decide)]) ?_
                      refine rw_i (y := nI ns) h3 ?_
                      refine lv_iload hx hb dMo_wave_86 (lv_at hl 4 rfl) ?_
                      refine lv_iadd hx hb dMo_wave_88 ?_
                      refine rw_i (y := nI (ns + j)) (nI_add _ _) ?_
                      refine lv_dload_n hx hb dMo_wave_89 rfl (lv_at hl 3 rfl) ?_
                      refine lv_aload_n hx hb dMo_wave_90 rfl (lv_at hl 0 rfl) ?_
                      refine va_get (D := (dC, dI)) (ci := 8) (v := .ref (b 14)) (C := RMo) (T := TMo) (N := 27) hx hb hts inMo hown hK hP 0 rfl rfl 25 (by decide) (hts _ tw_672) (fun _ h9 => h9) rfl dMo_wave_91 ?_
                      refine lv_iload hx hb dMo_wave_94 (lv_at hl 4 rfl) ?_
                      refine lv_iload_n hx hb dMo_wave_96 rfl (lv_at hl 2 rfl) ?_
                      refine lv_imul hx hb dMo_wave_97 ?_
                      refine rw_i (y := nI (j * sp)) (pk_mul _ _) ?_
                      refine lv_bipush (v := nI 32) hx hb dMo_wave_98 (by decide +kernel) ?_
                      have hjs : j * sp ≤ 64 * 31 := Nat.mul_le_mul (by omega) s2
                      refine lv_irem hx hb dMo_wave_100 (by decide +kernel) ?_
                      refine rw_i (y := nI ((j * sp) % 32)) (pk_rem (by omega) (by omega) (by omega)) ?_
                      refine rw_ald_d hx hb hK hP 14 1 rfl rfl (Nat.mod_lt _ (by decide)) (by decide) dMo_wave_101 ?_
                      refine rw_d (y := hd_C ((j * sp) % 32)) (by rw [hd_wr_o _ _ _ _ _ (by decide)]; exact hc _ (Nat.mod_lt _ (by decide))) ?_
                      refine lv_dmul hx hb dMo_wave_102 (fb_n (fb_mul ha (hd_C_b _ (Nat.mod_lt _ (by decide))) (by decide) (by decide)) (by decide)) ?_
                      refine rw_ast_d hx hb hK hP hD hS 8 1 rfl rfl (by omega) (by decide) dMo_wave_103 (fun H locs hP hD hS => ?_)
                      rw [wm_a8] at hP hD
                      obtain ⟨D7, eD7⟩ : ∃ z, z = ud (hd_wr D 1 ns sp a j) 1 (ns + j) (FP.dmul a (hd_C ((j * sp) % 32))) := ⟨_, rfl⟩
                      rw [← eD7] at hP hD
                      refine lv_iinc (v := nI (j + 1)) (lv' := [(5, .int (nI (j + 1))), (0, .ref (b 0)), (1, .int (nI q)), (2, .int (nI sp)), (3, .double a)]) hx hb dMo_wave_104 hl (k := 4) rfl (nI_1 _) (by decide) rfl (fun ls hl => ?_)
                      refine lv_goto (tgt := 72) hx hb dMo_wave_107 (by decide) ?_
                      rw [eD7] at hP hD
                      exact ih72 (j + 1) (by omega) (by omega) _ _ hP hD hS ls (lv_sub hl [1, 2, 3, 4, 0] rfl)
                exact L72 _ 0 (Nat.lt_succ_self _) (by omega) _ _ hP hD hS ls (lv_sub hl [1, 2, 3, 4, 0] rfl)
              · have c64 : ¬ 0 = 0 := fun q9 => c64 (show nI 0 = nI 0 from (nI_eq (a := 0) (b := 0) (by omega) (by omega)).mpr q9)
                exact absurd (by decide) c64
            · have c52 : ¬ (ns + q) ≤ 320 := fun q9 => c52 (show nI (ns + q) ≤ nI 320 from (nI_leI (a := (ns + q)) (b := 320) (by omega) (by omega)).mpr q9)
              refine lv_iconst (v := nI 1) hx hb dMo_wave_55 (by decide +kernel) ?_
              refine lv_goto (tgt := 60) hx hb dMo_wave_56 (by decide) ?_
              refine lv_iconst (v := nI 2) hx hb dMo_wave_60 (by decide +kernel) ?_
              refine ct_i (va_runV (As := [.int (nI 1), .int (nI 2)]) (rest := []) ⟨hx, hb, hml, hown, hts⟩ (kMo_fails1 l dC dI k b I1 D _ 2 (by omega) (by omega) (by rw [eI1, ui_s])) (cwV 2 hts (gw_V tw_737 tw_739 sl_Mo_fails tw_9 tw_740) rfl rfl rfl (by decide +kernel) ⟨Nat.le_of_ble_eq_true rfl, Nat.le_of_ble_eq_true rfl⟩) ⟨ct_blind (ev := fun _ => True) (fun _ _ _ _ h => h), va_recv hK hP (ci := 8) (q0 := 0) rfl rfl, ct_now (ev := fun _ => True) (fun _ _ _ => trivial) hP hK hD⟩ rfl rfl hl.1 rfl (lv_room (Nat.le_of_ble_eq_true rfl)) dMo_wave_61 ⟨Nat.le_of_ble_eq_true rfl, Nat.le_of_ble_eq_true rfl⟩) hD hS hA (fun r8 u8 H locs hw8 hP hD hS => ?_)
              obtain ⟨r8e, eu8⟩ := hw8
              subst r8e
              refine lv_if_eq (tgt := 69) hx hb dMo_wave_64 (by decide) (fun c64 => ?_) (fun c64 => ?_)
              · have c64 : 1 = 0 := (nI_eq (a := 1) (b := 0) (by omega) (by omega)).mp (show nI 1 = nI 0 from c64)
                exact absurd c64 (by decide)
              · have c64 : ¬ 1 = 0 := fun q9 => c64 (show nI 1 = nI 0 from (nI_eq (a := 1) (b := 0) (by omega) (by omega)).mpr q9)
                refine lv_iconst (v := nI 0) hx hb dMo_wave_67 (by decide +kernel) ?_
                rw [hQ9]
                exact ct_ri hx hb hr hlocks (u8, D) (Or.inr ⟨q, q1, q2, rfl, sp, s1, s2, rfl, Or.inl ⟨by omega, by rw [eu8, eI1]⟩⟩) hP hD hS (Nat.le_refl _) (Nat.le_refl _) dMo_wave_68
        · have c27 : 1 = 0 := (nI_eq (a := 1) (b := 0) (by omega) (by omega)).mp (show nI 1 = nI 0 from c27)
          exact absurd c27 (by decide)
      · rw [if_neg g24] at hw3
        subst hw3
        refine rw_i (y := nI 0) rfl ?_
        refine lv_if_ne (tgt := 34) hx hb dMo_wave_27 (by decide) (fun c27 => ?_) (fun c27 => ?_)
        · have c27 : ¬ 0 = 0 := fun q9 => c27 (show nI 0 = nI 0 from (nI_eq (a := 0) (b := 0) (by omega) (by omega)).mpr q9)
          exact absurd (by decide) c27
        · have c27 : 0 = 0 := (nI_eq (a := 0) (b := 0) (by omega) (by omega)).mp (show nI 0 = nI 0 from c27)
          refine lv_iconst (v := nI 1) hx hb dMo_wave_30 (by decide +kernel) ?_
          refine lv_goto (tgt := 35) hx hb dMo_wave_31 (by decide) ?_
          refine lv_iconst (v := nI 1) hx hb dMo_wave_35 (by decide +kernel) ?_
          refine ct_i (va_runV (As := [.int (nI 1), .int (nI 1)]) (rest := []) ⟨hx, hb, hml, hown, hts⟩ (kMo_fails1 l dC dI k b I1 D _ 1 (by omega) (by omega) (by rw [eI1, ui_s])) (cwV 2 hts (gw_V tw_737 tw_739 sl_Mo_fails tw_9 tw_740) rfl rfl rfl (by decide +kernel) ⟨Nat.le_of_ble_eq_true rfl, Nat.le_of_ble_eq_true rfl⟩) ⟨ct_blind (ev := fun _ => True) (fun _ _ _ _ h => h), va_recv hK hP (ci := 8) (q0 := 0) rfl rfl, ct_now (ev := fun _ => True) (fun _ _ _ => trivial) hP hK hD⟩ rfl rfl hl.1 rfl (lv_room (Nat.le_of_ble_eq_true rfl)) dMo_wave_36 ⟨Nat.le_of_ble_eq_true rfl, Nat.le_of_ble_eq_true rfl⟩) hD hS hA (fun r9 u9 H locs hw9 hP hD hS => ?_)
          obtain ⟨r9e, eu9⟩ := hw9
          subst r9e
          refine lv_if_ne (tgt := 67) hx hb dMo_wave_39 (by decide) (fun c39 => ?_) (fun c39 => ?_)
          · have c39 : ¬ 1 = 0 := fun q9 => c39 (show nI 1 = nI 0 from (nI_eq (a := 1) (b := 0) (by omega) (by omega)).mpr q9)
            refine lv_iconst (v := nI 0) hx hb dMo_wave_67 (by decide +kernel) ?_
            rw [hQ9]
            exact ct_ri hx hb hr hlocks (u9, D) (Or.inl ⟨by first | (exact fun z => g12 (in_ba (by decide) (by decide) z.1)) | (exact fun z => g24 (in_ba (by decide) (by decide) z.2)), by rw [eu9, eI1]⟩) hP hD hS (Nat.le_refl _) (Nat.le_refl _) dMo_wave_68
          · have c39 : 1 = 0 := (nI_eq (a := 1) (b := 0) (by omega) (by omega)).mp (show nI 1 = nI 0 from c39)
            exact absurd c39 (by decide)
  · rw [if_neg g12] at hw2
    subst hw2
    refine rw_i (y := nI 0) rfl ?_
    refine lv_if_eq (tgt := 30) hx hb dMo_wave_15 (by decide) (fun c15 => ?_) (fun c15 => ?_)
    · have c15 : 0 = 0 := (nI_eq (a := 0) (b := 0) (by omega) (by omega)).mp (show nI 0 = nI 0 from c15)
      refine lv_iconst (v := nI 1) hx hb dMo_wave_30 (by decide +kernel) ?_
      refine lv_goto (tgt := 35) hx hb dMo_wave_31 (by decide) ?_
      refine lv_iconst (v := nI 1) hx hb dMo_wave_35 (by decide +kernel) ?_
      refine ct_i (va_runV (As := [.int (nI 1), .int (nI 1)]) (rest := []) ⟨hx, hb, hml, hown, hts⟩ (kMo_fails1 l dC dI k b I1 D _ 1 (by omega) (by omega) (by rw [eI1, ui_s])) (cwV 2 hts (gw_V tw_737 tw_739 sl_Mo_fails tw_9 tw_740) rfl rfl rfl (by decide +kernel) ⟨Nat.le_of_ble_eq_true rfl, Nat.le_of_ble_eq_true rfl⟩) ⟨ct_blind (ev := fun _ => True) (fun _ _ _ _ h => h), va_recv hK hP (ci := 8) (q0 := 0) rfl rfl, ct_now (ev := fun _ => True) (fun _ _ _ => trivial) hP hK hD⟩ rfl rfl hl.1 rfl (lv_room (Nat.le_of_ble_eq_true rfl)) dMo_wave_36 ⟨Nat.le_of_ble_eq_true rfl, Nat.le_of_ble_eq_true rfl⟩) hD hS hA (fun r10 u10 H locs hw10 hP hD hS => ?_)
      obtain ⟨r10e, eu10⟩ := hw10
      subst r10e
      refine lv_if_ne (tgt := 67) hx hb dMo_wave_39 (by decide) (fun c39 => ?_) (fun c39 => ?_)
      · have c39 : ¬ 1 = 0 := fun q9 => c39 (show nI 1 = nI 0 from (nI_eq (a := 1) (b := 0) (by omega) (by omega)).mpr q9)
        refine lv_iconst (v := nI 0) hx hb dMo_wave_67 (by decide +kernel) ?_
        rw [hQ9]
        exact ct_ri hx hb hr hlocks (u10, D) (Or.inl ⟨by first | (exact fun z => g12 (in_ba (by decide) (by decide) z.1)) | (exact fun z => g24 (in_ba (by decide) (by decide) z.2)), by rw [eu10, eI1]⟩) hP hD hS (Nat.le_refl _) (Nat.le_refl _) dMo_wave_68
      · have c39 : 1 = 0 := (nI_eq (a := 1) (b := 0) (by omega) (by omega)).mp (show nI 1 = nI 0 from c39)
        exact absurd c39 (by decide)
    · have c15 : ¬ 0 = 0 := fun q9 => c15 (show nI 0 = nI 0 from (nI_eq (a := 0) (b := 0) (by omega) (by omega)).mpr q9)
      exact absurd (by decide) c15
set_option maxHeartbeats 4000000 in
set_option maxRecDepth 100000 in
theorem kMo_ways (l : Launch) (dC : Nat → ClassId) (dI : Nat → Nat → Nat) (k : Nat → ClassId) (b : Nat → Nat) (I : Nat → Nat → Int32) (D : Nat → Nat → UInt64) (sz : Nat) (th lm : UInt64) (gp : Int32) : Met l yMo_ways wMo_ways ({ frames := 1, cells := 0, slots := 0, locals := 25 }) (va_Pc [.ref (b 0), .double th, .int gp, .double lm] (ct_pre (dC, dI) (mo_ty k) (fun _ => True) (wm k b I D) sz)) (va_Qv (fun (u : (Nat → Nat → Int32) × (Nat → Nat → UInt64)) => (¬ (FP.dcmp th 0 = some .gt ∧ (∃ g, 1 ≤ g ∧ g ≤ 4 ∧ gp = nI g) ∧ ¬ FP.dcmp lm 0 = some .lt) ∧ u = (ui (ui I 0 0 (nI 0)) 0 0 (nI 1), D)) ∨ (FP.dcmp th 0 = some .gt ∧ ¬ FP.dcmp lm 0 = some .lt ∧ ∃ g, 1 ≤ g ∧ g ≤ 4 ∧ gp = nI g ∧ u = (ui (ui I 0 0 (nI 0)) 0 7 (nI g), ud (ud D 0 0 th) 0 1 lm))) (fun u t => ct_at (dC, dI) (va_A (wm k b I D) sz) ((fun u => wm k b u.1 u.2) u) t) (va_A (wm k b I D) sz)) 0 0 (va_A (wm k b I D) sz) := by
  refine Met.ofW (cc := cMo_ways) (maxL := 6) (ret := none) (by decide) rfl ?_
  intro p e s m args below meth c s₁ B hml hv
  obtain ⟨rfl, hsz, hP, hK, hD0, hE⟩ := hv
  have hx := B.exec
  have hb := B.bytes
  have hr := B.returns
  have hts : ∀ w ∈ W0, w.before [.ref (b 0), .double th, .int gp, .double lm].toArray s = true := fun w h => atoms_spec (ws := wMo_ways) B.pre w (List.mem_cons_of_mem _ h)
  have hown : s.vm.findClass RMo = some m.cls := findClass_of_methodNamed B.named
  have hlocks := B.notSynchronized
  subst hsz
  have hD := hD0.self (sz := s.heap.size)
  generalize hAe : va_A (wm k b I D) s.heap.size = A at hD ⊢
  have hA : ∀ q : Nat, s.heap.size ≤ q → A q := fun q h => by rw [← hAe]; exact Or.inr h
  have hS : va_S A s.heap s.heap [] := va_S.rf
  have hl := lv_entry ([.ref (b 0), .double th, .int gp, .double lm]) (n := 6) (Nat.le_of_ble_eq_true rfl)
  rw [lg_entry_eq]
  generalize (lg_sl ([.ref (b 0), .double th, .int gp, .double lm]) ++ List.replicate (6 - (lg_sl ([.ref (b 0), .double th, .int gp, .double lm])).length) Slot.unset).toArray = ls at hl ⊢
  have hl : lv_has ls 6 [(0, .ref (b 0)), (1, .double th), (3, .int gp), (4, .double lm)] := hl
  refine lv_aload_n hx hb dMo_ways_0 rfl (lv_at hl 0 rfl) ?_
  refine lv_iconst (v := nI 0) hx hb dMo_ways_1 (by decide +kernel) ?_
  refine va_put (D := (dC, dI)) (ci := 8) (fs := mo_f b I D) (v := .int (nI 0)) (ty := .int) (C := RMo) (T := TMo) (N := 27) hx hb hts inMo tyMo tyMo_ok nmMo hown hK hP hD hS 0 rfl rfl 0 (by decide) (hts _ tw_647) (fun _ h9 => h9) rfl (by decide +kernel) rfl rfl (Nat.le_of_ble_eq_true rfl) dMo_ways_2 (fun H locs hP hD hS => ?_)
  rw [wm_p0] at hP hD
  obtain ⟨I1, eI1⟩ : ∃ z, z = ui I 0 0 (nI 0) := ⟨_, rfl⟩
  rw [← eI1] at hP hD
  refine lv_aload_n hx hb dMo_ways_5 rfl (lv_at hl 0 rfl) ?_
  refine lv_dload_n hx hb dMo_ways_6 rfl (lv_at hl 1 rfl) ?_
  refine lv_dconst0 hx hb dMo_ways_7 ?_
  refine rw_d (y := 0) rfl ?_
  refine lv_dcmp hx hb dMo_ways_8 ?_
  refine lv_if_le (tgt := 31) hx hb dMo_ways_9 (by decide) (fun c9 => ?_) (fun c9 => ?_)
  · refine lv_iconst (v := nI 1) hx hb dMo_ways_31 (by decide +kernel) ?_
    refine lv_goto (tgt := 36) hx hb dMo_ways_32 (by decide) ?_
    refine lv_iconst (v := nI 1) hx hb dMo_ways_36 (by decide +kernel) ?_
    refine ct_i (va_runV (As := [.int (nI 1), .int (nI 1)]) (rest := []) ⟨hx, hb, hml, hown, hts⟩ (kMo_fails1 l dC dI k b I1 D _ 1 (by omega) (by omega) (by rw [eI1, ui_s])) (cwV 2 hts (gw_V tw_737 tw_739 sl_Mo_fails tw_9 tw_740) rfl rfl rfl (by decide +kernel) ⟨Nat.le_of_ble_eq_true rfl, Nat.le_of_ble_eq_true rfl⟩) ⟨ct_blind (ev := fun _ => True) (fun _ _ _ _ h => h), va_recv hK hP (ci := 8) (q0 := 0) rfl rfl, ct_now (ev := fun _ => True) (fun _ _ _ => trivial) hP hK hD⟩ rfl rfl hl.1 rfl (lv_room (Nat.le_of_ble_eq_true rfl)) dMo_ways_37 ⟨Nat.le_of_ble_eq_true rfl, Nat.le_of_ble_eq_true rfl⟩) hD hS hA (fun r2 u2 H locs hw2 hP hD hS => ?_)
    obtain ⟨r2e, eu2⟩ := hw2
    subst r2e
    refine lv_if_eq (tgt := 44) hx hb dMo_ways_40 (by decide) (fun c40 => ?_) (fun c40 => ?_)
    · have c40 : 1 = 0 := (nI_eq (a := 1) (b := 0) (by omega) (by omega)).mp (show nI 1 = nI 0 from c40)
      exact absurd c40 (by decide)
    · have c40 : ¬ 1 = 0 := fun q9 => c40 (show nI 1 = nI 0 from (nI_eq (a := 1) (b := 0) (by omega) (by omega)).mpr q9)
      exact ct_rv hx hb hr hlocks (u2, D) (Or.inl ⟨by first | (exact fun z => (fc_le_l _).mp c9 z.1) | (exact fun z => g18 (in_ba (by decide) (by decide) z.2.1)) | (exact fun z => z.2.2 ((fc_lt_g _).mp (Int32.not_le.mp c28))), by rw [eu2, eI1]⟩) hP hD hS (Nat.le_refl _) (Nat.le_refl _) dMo_ways_43
  · refine lv_iload_n hx hb dMo_ways_12 rfl (lv_at hl 2 rfl) ?_
    refine lv_i2l (v := gp.toInt64) hx hb dMo_ways_13 rfl ?_
    refine lv_lconst (v := lN 1) hx hb dMo_ways_14 (by decide +kernel) ?_
    refine lv_ldc2 (v := 4) hx hb hown (hts _ tw_823) dMo_ways_15 ?_
    refine rw_l (y := lN 4) (by decide +kernel) ?_
    refine ct_i (va_runS (As := [.long gp.toInt64, .long (lN 1), .long (lN 4)]) (rest := [.ref (b 0)]) ⟨hx, hb, hml, hown, hts⟩ (kMo_in l dC dI k b I1 D _ gp.toInt64 (lN 1) (lN 4)) (va_cwS 3 hts (gw_S tw_734 tw_735 tw_9 tw_736) rfl rfl rfl (by decide +kernel) ⟨Nat.le_of_ble_eq_true rfl, Nat.le_of_ble_eq_true rfl⟩) ⟨ct_blind (ev := fun _ => True) (fun _ _ _ _ h => h), ct_now (ev := fun _ => True) (fun _ _ _ => trivial) hP hK hD⟩ rfl rfl hl.1 rfl (lv_room (Nat.le_of_ble_eq_true rfl)) dMo_ways_18 ⟨Nat.le_of_ble_eq_true rfl, Nat.le_of_ble_eq_true rfl⟩) hD hS hA (fun r3 u3 H locs hw3 hP hD hS => ?_)
    by_cases g18 : lN 1 ≤ gp.toInt64 ∧ gp.toInt64 ≤ lN 4
    · rw [if_pos g18] at hw3
      subst hw3
      refine rw_i (y := nI 1) rfl ?_
      obtain ⟨g, g1, g2, rfl⟩ := in_ab (by decide) (by decide) g18
      refine lv_if_eq (tgt := 31) hx hb dMo_ways_21 (by decide) (fun c21 => ?_) (fun c21 => ?_)
      · have c21 : 1 = 0 := (nI_eq (a := 1) (b := 0) (by omega) (by omega)).mp (show nI 1 = nI 0 from c21)
        exact absurd c21 (by decide)
      · have c21 : ¬ 1 = 0 := fun q9 => c21 (show nI 1 = nI 0 from (nI_eq (a := 1) (b := 0) (by omega) (by omega)).mpr q9)
        refine lv_dload hx hb dMo_ways_24 (lv_at hl 3 rfl) ?_
        refine lv_dconst0 hx hb dMo_ways_26 ?_
        refine rw_d (y := 0) rfl ?_
        refine lv_dcmp hx hb dMo_ways_27 ?_
        refine lv_if_ge (tgt := 35) hx hb dMo_ways_28 (by decide) (fun c28 => ?_) (fun c28 => ?_)
        · refine lv_iconst (v := nI 0) hx hb dMo_ways_35 (by decide +kernel) ?_
          refine lv_iconst (v := nI 1) hx hb dMo_ways_36 (by decide +kernel) ?_
          refine ct_i (va_runV (As := [.int (nI 0), .int (nI 1)]) (rest := []) ⟨hx, hb, hml, hown, hts⟩ (kMo_fails0 l dC dI k b I1 D _ (nI 1) (by rw [eI1, ui_s])) (cwV 2 hts (gw_V tw_737 tw_739 sl_Mo_fails tw_9 tw_740) rfl rfl rfl (by decide +kernel) ⟨Nat.le_of_ble_eq_true rfl, Nat.le_of_ble_eq_true rfl⟩) ⟨ct_blind (ev := fun _ => True) (fun _ _ _ _ h => h), va_recv hK hP (ci := 8) (q0 := 0) rfl rfl, ct_now (ev := fun _ => True) (fun _ _ _ => trivial) hP hK hD⟩ rfl rfl hl.1 rfl (lv_room (Nat.le_of_ble_eq_true rfl)) dMo_ways_37 ⟨Nat.le_of_ble_eq_true rfl, Nat.le_of_ble_eq_true rfl⟩) hD hS hA (fun r4 u4 H locs hw4 hP hD hS => ?_)
          subst hw4
          refine lv_if_eq (tgt := 44) hx hb dMo_ways_40 (by decide) (fun c40 => ?_) (fun c40 => ?_)
          · have c40 : 0 = 0 := (nI_eq (a := 0) (b := 0) (by omega) (by omega)).mp (show nI 0 = nI 0 from c40)
            refine lv_aload_n hx hb dMo_ways_44 rfl (lv_at hl 0 rfl) ?_
            refine lv_dload_n hx hb dMo_ways_45 rfl (lv_at hl 1 rfl) ?_
            refine va_put (D := (dC, dI)) (ci := 8) (fs := mo_f b I1 D) (v := .double th) (ty := .double) (C := RMo) (T := TMo) (N := 27) hx hb hts inMo tyMo tyMo_ok nmMo hown hK hP hD hS 0 rfl rfl 10 (by decide) (hts _ tw_657) (fun _ h9 => h9) rfl (by decide +kernel) rfl rfl (Nat.le_of_ble_eq_true rfl) dMo_ways_46 (fun H locs hP hD hS => ?_)
            rw [wm_p10] at hP hD
            obtain ⟨D5, eD5⟩ : ∃ z, z = ud D 0 0 th := ⟨_, rfl⟩
            rw [← eD5] at hP hD
            refine lv_aload_n hx hb dMo_ways_49 rfl (lv_at hl 0 rfl) ?_
            refine lv_iload_n hx hb dMo_ways_50 rfl (lv_at hl 2 rfl) ?_
            refine va_put (D := (dC, dI)) (ci := 8) (fs := mo_f b I1 D5) (v := .int (nI g)) (ty := .int) (C := RMo) (T := TMo) (N := 27) hx hb hts inMo tyMo tyMo_ok nmMo hown hK hP hD hS 0 rfl rfl 7 (by decide) (hts _ tw_654) (fun _ h9 => h9) rfl (by decide +kernel) rfl rfl (Nat.le_of_ble_eq_true rfl) dMo_ways_51 (fun H locs hP hD hS => ?_)
            rw [wm_p7] at hP hD
            obtain ⟨I6, eI6⟩ : ∃ z, z = ui I1 0 7 (nI g) := ⟨_, rfl⟩
            rw [← eI6] at hP hD
            refine lv_aload_n hx hb dMo_ways_54 rfl (lv_at hl 0 rfl) ?_
            refine lv_dload hx hb dMo_ways_55 (lv_at hl 3 rfl) ?_
            refine va_put (D := (dC, dI)) (ci := 8) (fs := mo_f b I6 D5) (v := .double lm) (ty := .double) (C := RMo) (T := TMo) (N := 27) hx hb hts inMo tyMo tyMo_ok nmMo hown hK hP hD hS 0 rfl rfl 11 (by decide) (hts _ tw_658) (fun _ h9 => h9) rfl (by decide +kernel) rfl rfl (Nat.le_of_ble_eq_true rfl) dMo_ways_57 (fun H locs hP hD hS => ?_)
            rw [wm_p11] at hP hD
            obtain ⟨D7, eD7⟩ : ∃ z, z = ud D5 0 1 lm := ⟨_, rfl⟩
            rw [← eD7] at hP hD
            exact ct_rv hx hb hr hlocks (I6, D7) (Or.inr ⟨(fc_gt_l _).mp (Int32.not_le.mp c9), (fc_ge_g _).mp c28, g, g1, g2, rfl, by rw [eI6, eI1, eD7, eD5]⟩) hP hD hS (Nat.le_refl _) (Nat.le_refl _) dMo_ways_60
          · have c40 : ¬ 0 = 0 := fun q9 => c40 (show nI 0 = nI 0 from (nI_eq (a := 0) (b := 0) (by omega) (by omega)).mpr q9)
            exact absurd (by decide) c40
        · refine lv_iconst (v := nI 1) hx hb dMo_ways_31 (by decide +kernel) ?_
          refine lv_goto (tgt := 36) hx hb dMo_ways_32 (by decide) ?_
          refine lv_iconst (v := nI 1) hx hb dMo_ways_36 (by decide +kernel) ?_
          refine ct_i (va_runV (As := [.int (nI 1), .int (nI 1)]) (rest := []) ⟨hx, hb, hml, hown, hts⟩ (kMo_fails1 l dC dI k b I1 D _ 1 (by omega) (by omega) (by rw [eI1, ui_s])) (cwV 2 hts (gw_V tw_737 tw_739 sl_Mo_fails tw_9 tw_740) rfl rfl rfl (by decide +kernel) ⟨Nat.le_of_ble_eq_true rfl, Nat.le_of_ble_eq_true rfl⟩) ⟨ct_blind (ev := fun _ => True) (fun _ _ _ _ h => h), va_recv hK hP (ci := 8) (q0 := 0) rfl rfl, ct_now (ev := fun _ => True) (fun _ _ _ => trivial) hP hK hD⟩ rfl rfl hl.1 rfl (lv_room (Nat.le_of_ble_eq_true rfl)) dMo_ways_37 ⟨Nat.le_of_ble_eq_true rfl, Nat.le_of_ble_eq_true rfl⟩) hD hS hA (fun r8 u8 H locs hw8 hP hD hS => ?_)
          obtain ⟨r8e, eu8⟩ := hw8
          subst r8e
          refine lv_if_eq (tgt := 44) hx hb dMo_ways_40 (by decide) (fun c40 => ?_) (fun c40 => ?_)
          · have c40 : 1 = 0 := (nI_eq (a := 1) (b := 0) (by omega) (by omega)).mp (show nI 1 = nI 0 from c40)
            exact absurd c40 (by decide)
          · have c40 : ¬ 1 = 0 := fun q9 => c40 (show nI 1 = nI 0 from (nI_eq (a := 1) (b := 0) (by omega) (by omega)).mpr q9)
            exact ct_rv hx hb hr hlocks (u8, D) (Or.inl ⟨by first | (exact fun z => (fc_le_l _).mp c9 z.1) | (exact fun z => g18 (in_ba (by decide) (by decide) z.2.1)) | (exact fun z => z.2.2 ((fc_lt_g _).mp (Int32.not_le.mp c28))), by rw [eu8, eI1]⟩) hP hD hS (Nat.le_refl _) (Nat.le_refl _) dMo_ways_43
    · rw [if_neg g18] at hw3
      subst hw3
      refine rw_i (y := nI 0) rfl ?_
      refine lv_if_eq (tgt := 31) hx hb dMo_ways_21 (by decide) (fun c21 => ?_) (fun c21 => ?_)
      · have c21 : 0 = 0 := (nI_eq (a := 0) (b := 0) (by omega) (by omega)).mp (show nI 0 = nI 0 from c21)
        refine lv_iconst (v := nI 1) hx hb dMo_ways_31 (by decide +kernel) ?_
        refine lv_goto (tgt := 36) hx hb dMo_ways_32 (by decide) ?_
        refine lv_iconst (v := nI 1) hx hb dMo_ways_36 (by decide +kernel) ?_
        refine ct_i (va_runV (As := [.int (nI 1), .int (nI 1)]) (rest := []) ⟨hx, hb, hml, hown, hts⟩ (kMo_fails1 l dC dI k b I1 D _ 1 (by omega) (by omega) (by rw [eI1, ui_s])) (cwV 2 hts (gw_V tw_737 tw_739 sl_Mo_fails tw_9 tw_740) rfl rfl rfl (by decide +kernel) ⟨Nat.le_of_ble_eq_true rfl, Nat.le_of_ble_eq_true rfl⟩) ⟨ct_blind (ev := fun _ => True) (fun _ _ _ _ h => h), va_recv hK hP (ci := 8) (q0 := 0) rfl rfl, ct_now (ev := fun _ => True) (fun _ _ _ => trivial) hP hK hD⟩ rfl rfl hl.1 rfl (lv_room (Nat.le_of_ble_eq_true rfl)) dMo_ways_37 ⟨Nat.le_of_ble_eq_true rfl, Nat.le_of_ble_eq_true rfl⟩) hD hS hA (fun r9 u9 H locs hw9 hP hD hS => ?_)
        obtain ⟨r9e, eu9⟩ := hw9
        subst r9e
        refine lv_if_eq (tgt := 44) hx hb dMo_ways_40 (by decide) (fun c40 => ?_) (fun c40 => ?_)
        · have c40 : 1 = 0 := (nI_eq (a := 1) (b := 0) (by omega) (by omega)).mp (show nI 1 = nI 0 from c40)
          exact absurd c40 (by decide)
        · have c40 : ¬ 1 = 0 := fun q9 => c40 (show nI 1 = nI 0 from (nI_eq (a := 1) (b := 0) (by omega) (by omega)).mpr q9)
          exact ct_rv hx hb hr hlocks (u9, D) (Or.inl ⟨by first | (exact fun z => (fc_le_l _).mp c9 z.1) | (exact fun z => g18 (in_ba (by decide) (by decide) z.2.1)) | (exact fun z => z.2.2 ((fc_lt_g _).mp (Int32.not_le.mp c28))), by rw [eu9, eI1]⟩) hP hD hS (Nat.le_refl _) (Nat.le_refl _) dMo_ways_43
      · have c21 : ¬ 0 = 0 := fun q9 => c21 (show nI 0 = nI 0 from (nI_eq (a := 0) (b := 0) (by omega) (by omega)).mpr q9)
        exact absurd (by decide) c21
set_option maxHeartbeats 4000000 in
set_option maxRecDepth 100000 in
theorem kMo_cost (l : Launch) (dC : Nat → ClassId) (dI : Nat → Nat → Nat) (k : Nat → ClassId) (b : Nat → Nat) (I : Nat → Nat → Int32) (D : Nat → Nat → UInt64) (sz : Nat) (i : Int32) (nw : Nat) (hn : nw ≤ 20) (h6 : I 0 6 = nI nw) : Met l yMo_cost wMo_cost ({ frames := 1, cells := 0, slots := 0, locals := 25 }) (va_Pc [.ref (b 0), .int i] (ct_pre (dC, dI) (mo_ty k) (fun _ => True) (wm k b I D) sz)) (va_Qd (fun r (u : Nat → Nat → Int32) => ((¬ ∃ j, j < nw ∧ i = nI j) ∧ u = ui (ui I 0 0 (nI 0)) 0 0 (nI 1)) ∨ (∃ j, j < nw ∧ i = nI j ∧ ((I 7 j < 0 ∧ u = ui (ui I 0 0 (nI 0)) 0 0 (nI 2)) ∨ (¬ I 7 j < 0 ∧ u = ui I 0 0 (nI 0) ∧ r = D 3 j)))) (fun u t => ct_at (dC, dI) (va_A (wm k b I D) sz) ((fun u => wm k b u D) u) t) (va_A (wm k b I D) sz)) 0 0 (va_A (wm k b I D) sz) := by
  refine Met.ofW (cc := cMo_cost) (maxL := 2) (ret := (some .double)) (by decide) rfl ?_
  intro p e s m args below meth c s₁ B hml hv
  obtain ⟨rfl, hsz, hP, hK, hD0, hE⟩ := hv
  have hx := B.exec
  have hb := B.bytes
  have hr := B.returns
  have hts : ∀ w ∈ W0, w.before [.ref (b 0), .int i].toArray s = true := fun w h => atoms_spec (ws := wMo_cost) B.pre w (List.mem_cons_of_mem _ h)
  have hown : s.vm.findClass RMo = some m.cls := findClass_of_methodNamed B.named
  have hlocks := B.notSynchronized
  subst hsz
  have hD := hD0.self (sz := s.heap.size)
  generalize hAe : va_A (wm k b I D) s.heap.size = A at hD ⊢
  have hA : ∀ q : Nat, s.heap.size ≤ q → A q := fun q h => by rw [← hAe]; exact Or.inr h
  have hS : va_S A s.heap s.heap [] := va_S.rf
  have hl := lv_entry ([.ref (b 0), .int i]) (n := 2) (Nat.le_of_ble_eq_true rfl)
  rw [lg_entry_eq]
  generalize (lg_sl ([.ref (b 0), .int i]) ++ List.replicate (2 - (lg_sl ([.ref (b 0), .int i])).length) Slot.unset).toArray = ls at hl ⊢
  have hl : lv_has ls 2 [(0, .ref (b 0)), (1, .int i)] := hl
  refine lv_aload_n hx hb dMo_cost_0 rfl (lv_at hl 0 rfl) ?_
  refine lv_iconst (v := nI 0) hx hb dMo_cost_1 (by decide +kernel) ?_
  refine va_put (D := (dC, dI)) (ci := 8) (fs := mo_f b I D) (v := .int (nI 0)) (ty := .int) (C := RMo) (T := TMo) (N := 27) hx hb hts inMo tyMo tyMo_ok nmMo hown hK hP hD hS 0 rfl rfl 0 (by decide) (hts _ tw_647) (fun _ h9 => h9) rfl (by decide +kernel) rfl rfl (Nat.le_of_ble_eq_true rfl) dMo_cost_2 (fun H locs hP hD hS => ?_)
  rw [wm_p0] at hP hD
  obtain ⟨I1, eI1⟩ : ∃ z, z = ui I 0 0 (nI 0) := ⟨_, rfl⟩
  rw [← eI1] at hP hD
  refine lv_aload_n hx hb dMo_cost_5 rfl (lv_at hl 0 rfl) ?_
  refine lv_iload_n hx hb dMo_cost_6 rfl (lv_at hl 1 rfl) ?_
  refine lv_i2l (v := i.toInt64) hx hb dMo_cost_7 rfl ?_
  refine lv_lconst (v := lN 0) hx hb dMo_cost_8 (by decide +kernel) ?_
  refine lv_aload_n hx hb dMo_cost_9 rfl (lv_at hl 0 rfl) ?_
  refine va_get (D := (dC, dI)) (ci := 8) (v := .int (I1 0 6)) (C := RMo) (T := TMo) (N := 27) hx hb hts inMo hown hK hP 0 rfl rfl 6 (by decide) (hts _ tw_653) (fun _ h9 => h9) rfl dMo_cost_10 ?_
  refine rw_i (y := I 0 6) (by rw [eI1, ui_n _ _ _ (by decide)]) ?_
  refine rw_i (y := nI nw) h6 ?_
  refine lv_iconst (v := nI 1) hx hb dMo_cost_13 (by decide +kernel) ?_
  refine lv_isub hx hb dMo_cost_14 ?_
  refine lv_i2l (v := ((nI nw) - (nI 1)).toInt64) hx hb dMo_cost_15 rfl ?_
  refine ct_i (va_runS (As := [.long i.toInt64, .long (lN 0), .long (((nI nw) - (nI 1)).toInt64)]) (rest := [.ref (b 0)]) ⟨hx, hb, hml, hown, hts⟩ (kMo_in l dC dI k b I1 D _ i.toInt64 (lN 0) (((nI nw) - (nI 1)).toInt64)) (va_cwS 3 hts (gw_S tw_734 tw_735 tw_9 tw_736) rfl rfl rfl (by decide +kernel) ⟨Nat.le_of_ble_eq_true rfl, Nat.le_of_ble_eq_true rfl⟩) ⟨ct_blind (ev := fun _ => True) (fun _ _ _ _ h => h), ct_now (ev := fun _ => True) (fun _ _ _ => trivial) hP hK hD⟩ rfl rfl hl.1 rfl (lv_room (Nat.le_of_ble_eq_true rfl)) dMo_cost_16 ⟨Nat.le_of_ble_eq_true rfl, Nat.le_of_ble_eq_true rfl⟩) hD hS hA (fun r2 u2 H locs hw2 hP hD hS => ?_)
  by_cases g16 : lN 0 ≤ i.toInt64 ∧ i.toInt64 ≤ ((nI nw) - (nI 1)).toInt64
  · rw [if_pos g16] at hw2
    subst hw2
    refine rw_i (y := nI 1) rfl ?_
    obtain ⟨j, hj, rfl⟩ := in_0n (Nat.le_trans hn (by decide)) g16
    refine lv_if_ne (tgt := 26) hx hb dMo_cost_19 (by decide) (fun c19 => ?_) (fun c19 => ?_)
    · have c19 : ¬ 1 = 0 := fun q9 => c19 (show nI 1 = nI 0 from (nI_eq (a := 1) (b := 0) (by omega) (by omega)).mpr q9)
      refine lv_iconst (v := nI 0) hx hb dMo_cost_26 (by decide +kernel) ?_
      refine lv_iconst (v := nI 1) hx hb dMo_cost_27 (by decide +kernel) ?_
      refine ct_i (va_runV (As := [.int (nI 0), .int (nI 1)]) (rest := []) ⟨hx, hb, hml, hown, hts⟩ (kMo_fails0 l dC dI k b I1 D _ (nI 1) (by rw [eI1, ui_s])) (cwV 2 hts (gw_V tw_737 tw_739 sl_Mo_fails tw_9 tw_740) rfl rfl rfl (by decide +kernel) ⟨Nat.le_of_ble_eq_true rfl, Nat.le_of_ble_eq_true rfl⟩) ⟨ct_blind (ev := fun _ => True) (fun _ _ _ _ h => h), va_recv hK hP (ci := 8) (q0 := 0) rfl rfl, ct_now (ev := fun _ => True) (fun _ _ _ => trivial) hP hK hD⟩ rfl rfl hl.1 rfl (lv_room (Nat.le_of_ble_eq_true rfl)) dMo_cost_28 ⟨Nat.le_of_ble_eq_true rfl, Nat.le_of_ble_eq_true rfl⟩) hD hS hA (fun r3 u3 H locs hw3 hP hD hS => ?_)
      subst hw3
      refine lv_if_ne (tgt := 56) hx hb dMo_cost_31 (by decide) (fun c31 => ?_) (fun c31 => ?_)
      · have c31 : ¬ 0 = 0 := fun q9 => c31 (show nI 0 = nI 0 from (nI_eq (a := 0) (b := 0) (by omega) (by omega)).mpr q9)
        exact absurd (by decide) c31
      · have c31 : 0 = 0 := (nI_eq (a := 0) (b := 0) (by omega) (by omega)).mp (show nI 0 = nI 0 from c31)
        refine lv_aload_n hx hb dMo_cost_34 rfl (lv_at hl 0 rfl) ?_
        refine lv_aload_n hx hb dMo_cost_35 rfl (lv_at hl 0 rfl) ?_
        refine va_get (D := (dC, dI)) (ci := 8) (v := .ref (b 7)) (C := RMo) (T := TMo) (N := 27) hx hb hts inMo hown hK hP 0 rfl rfl 18 (by decide) (hts _ tw_665) (fun _ h9 => h9) rfl dMo_cost_36 ?_
        refine lv_iload_n hx hb dMo_cost_39 rfl (lv_at hl 1 rfl) ?_
        refine rw_ald_i hx hb hK hP 7 0 rfl rfl (by omega) (by decide) dMo_cost_40 ?_
        refine rw_i (y := I 7 j) (by rw [eI1, ui_o _ _ _ (by decide)]) ?_
        refine lv_if_ge (tgt := 48) hx hb dMo_cost_41 (by decide) (fun c41 => ?_) (fun c41 => ?_)
        · refine lv_iconst (v := nI 0) hx hb dMo_cost_48 (by decide +kernel) ?_
          refine lv_iconst (v := nI 2) hx hb dMo_cost_49 (by decide +kernel) ?_
          refine ct_i (va_runV (As := [.int (nI 0), .int (nI 2)]) (rest := []) ⟨hx, hb, hml, hown, hts⟩ (kMo_fails0 l dC dI k b I1 D _ (nI 2) (by rw [eI1, ui_s])) (cwV 2 hts (gw_V tw_737 tw_739 sl_Mo_fails tw_9 tw_740) rfl rfl rfl (by decide +kernel) ⟨Nat.le_of_ble_eq_true rfl, Nat.le_of_ble_eq_true rfl⟩) ⟨ct_blind (ev := fun _ => True) (fun _ _ _ _ h => h), va_recv hK hP (ci := 8) (q0 := 0) rfl rfl, ct_now (ev := fun _ => True) (fun _ _ _ => trivial) hP hK hD⟩ rfl rfl hl.1 rfl (lv_room (Nat.le_of_ble_eq_true rfl)) dMo_cost_50 ⟨Nat.le_of_ble_eq_true rfl, Nat.le_of_ble_eq_true rfl⟩) hD hS hA (fun r4 u4 H locs hw4 hP hD hS => ?_)
          subst hw4
          refine lv_if_eq (tgt := 58) hx hb dMo_cost_53 (by decide) (fun c53 => ?_) (fun c53 => ?_)
          · have c53 : 0 = 0 := (nI_eq (a := 0) (b := 0) (by omega) (by omega)).mp (show nI 0 = nI 0 from c53)
            refine lv_aload_n hx hb dMo_cost_58 rfl (lv_at hl 0 rfl) ?_
            refine va_get (D := (dC, dI)) (ci := 8) (v := .ref (b 10)) (C := RMo) (T := TMo) (N := 27) hx hb hts inMo hown hK hP 0 rfl rfl 21 (by decide) (hts _ tw_668) (fun _ h9 => h9) rfl dMo_cost_59 ?_
            refine lv_iload_n hx hb dMo_cost_62 rfl (lv_at hl 1 rfl) ?_
            refine rw_ald_d hx hb hK hP 10 1 rfl rfl (by omega) (by decide) dMo_cost_63 ?_
            exact ct_rd hx hb hr hlocks I1 (Or.inr ⟨j, hj, rfl, Or.inr ⟨Int32.not_lt.mpr c41, by rw [eI1], rfl⟩⟩) hP hD hS (Nat.le_refl _) (Nat.le_refl _) dMo_cost_64
          · have c53 : ¬ 0 = 0 := fun q9 => c53 (show nI 0 = nI 0 from (nI_eq (a := 0) (b := 0) (by omega) (by omega)).mpr q9)
            exact absurd (by decide) c53
        · refine lv_iconst (v := nI 1) hx hb dMo_cost_44 (by decide +kernel) ?_
          refine lv_goto (tgt := 49) hx hb dMo_cost_45 (by decide) ?_
          refine lv_iconst (v := nI 2) hx hb dMo_cost_49 (by decide +kernel) ?_
          refine ct_i (va_runV (As := [.int (nI 1), .int (nI 2)]) (rest := []) ⟨hx, hb, hml, hown, hts⟩ (kMo_fails1 l dC dI k b I1 D _ 2 (by omega) (by omega) (by rw [eI1, ui_s])) (cwV 2 hts (gw_V tw_737 tw_739 sl_Mo_fails tw_9 tw_740) rfl rfl rfl (by decide +kernel) ⟨Nat.le_of_ble_eq_true rfl, Nat.le_of_ble_eq_true rfl⟩) ⟨ct_blind (ev := fun _ => True) (fun _ _ _ _ h => h), va_recv hK hP (ci := 8) (q0 := 0) rfl rfl, ct_now (ev := fun _ => True) (fun _ _ _ => trivial) hP hK hD⟩ rfl rfl hl.1 rfl (lv_room (Nat.le_of_ble_eq_true rfl)) dMo_cost_50 ⟨Nat.le_of_ble_eq_true rfl, Nat.le_of_ble_eq_true rfl⟩) hD hS hA (fun r5 u5 H locs hw5 hP hD hS => ?_)
          obtain ⟨r5e, eu5⟩ := hw5
          subst r5e
          refine lv_if_eq (tgt := 58) hx hb dMo_cost_53 (by decide) (fun c53 => ?_) (fun c53 => ?_)
          · have c53 : 1 = 0 := (nI_eq (a := 1) (b := 0) (by omega) (by omega)).mp (show nI 1 = nI 0 from c53)
            exact absurd c53 (by decide)
          · have c53 : ¬ 1 = 0 := fun q9 => c53 (show nI 1 = nI 0 from (nI_eq (a := 1) (b := 0) (by omega) (by omega)).mpr q9)
            refine lv_dconst0 hx hb dMo_cost_56 ?_
            refine rw_d (y := 0) rfl ?_
            exact ct_rd hx hb hr hlocks u5 (Or.inr ⟨j, hj, rfl, Or.inl ⟨Int32.not_le.mp c41, by rw [eu5, eI1]⟩⟩) hP hD hS (Nat.le_refl _) (Nat.le_refl _) dMo_cost_57
    · have c19 : 1 = 0 := (nI_eq (a := 1) (b := 0) (by omega) (by omega)).mp (show nI 1 = nI 0 from c19)
      exact absurd c19 (by decide)
  · rw [if_neg g16] at hw2
    subst hw2
    refine rw_i (y := nI 0) rfl ?_
    refine lv_if_ne (tgt := 26) hx hb dMo_cost_19 (by decide) (fun c19 => ?_) (fun c19 => ?_)
    · have c19 : ¬ 0 = 0 := fun q9 => c19 (show nI 0 = nI 0 from (nI_eq (a := 0) (b := 0) (by omega) (by omega)).mpr q9)
      exact absurd (by decide) c19
    · have c19 : 0 = 0 := (nI_eq (a := 0) (b := 0) (by omega) (by omega)).mp (show nI 0 = nI 0 from c19)
      refine lv_iconst (v := nI 1) hx hb dMo_cost_22 (by decide +kernel) ?_
      refine lv_goto (tgt := 27) hx hb dMo_cost_23 (by decide) ?_
      refine lv_iconst (v := nI 1) hx hb dMo_cost_27 (by decide +kernel) ?_
      refine ct_i (va_runV (As := [.int (nI 1), .int (nI 1)]) (rest := []) ⟨hx, hb, hml, hown, hts⟩ (kMo_fails1 l dC dI k b I1 D _ 1 (by omega) (by omega) (by rw [eI1, ui_s])) (cwV 2 hts (gw_V tw_737 tw_739 sl_Mo_fails tw_9 tw_740) rfl rfl rfl (by decide +kernel) ⟨Nat.le_of_ble_eq_true rfl, Nat.le_of_ble_eq_true rfl⟩) ⟨ct_blind (ev := fun _ => True) (fun _ _ _ _ h => h), va_recv hK hP (ci := 8) (q0 := 0) rfl rfl, ct_now (ev := fun _ => True) (fun _ _ _ => trivial) hP hK hD⟩ rfl rfl hl.1 rfl (lv_room (Nat.le_of_ble_eq_true rfl)) dMo_cost_28 ⟨Nat.le_of_ble_eq_true rfl, Nat.le_of_ble_eq_true rfl⟩) hD hS hA (fun r6 u6 H locs hw6 hP hD hS => ?_)
      obtain ⟨r6e, eu6⟩ := hw6
      subst r6e
      refine lv_if_ne (tgt := 56) hx hb dMo_cost_31 (by decide) (fun c31 => ?_) (fun c31 => ?_)
      · have c31 : ¬ 1 = 0 := fun q9 => c31 (show nI 1 = nI 0 from (nI_eq (a := 1) (b := 0) (by omega) (by omega)).mpr q9)
        refine lv_dconst0 hx hb dMo_cost_56 ?_
        refine rw_d (y := 0) rfl ?_
        exact ct_rd hx hb hr hlocks u6 (Or.inl ⟨fun q => g16 (in_n0 (Nat.le_trans hn (by decide)) q), by rw [eu6, eI1]⟩) hP hD hS (Nat.le_refl _) (Nat.le_refl _) dMo_cost_57
      · have c31 : 1 = 0 := (nI_eq (a := 1) (b := 0) (by omega) (by omega)).mp (show nI 1 = nI 0 from c31)
        exact absurd c31 (by decide)
