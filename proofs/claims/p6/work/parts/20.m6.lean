set_option maxHeartbeats 4000000 in
set_option maxRecDepth 100000 in
theorem kMo_octets (l : Launch) (dC : Nat → ClassId) (dI : Nat → Nat → Nat) (k : Nat → ClassId) (b : Nat → Nat) (I : Nat → Nat → Int32) (D : Nat → Nat → UInt64) (sz : Nat) (n : Int32) (Wv f : Nat) (hW : Wv < 2 ^ 64) (hf : f ≤ 400) (h1 : I 0 1 = nI f) : Met l yMo_octets wMo_octets ({ frames := 1, cells := 0, slots := 0, locals := 25 }) (va_Pc [.ref (b 0), .int n, .long (lN Wv)] (ct_pre (dC, dI) (mo_ty k) (fun _ => True) (wm k b I D) sz)) (va_Qi (fun r (u : Nat → Nat → Int32) => ((¬ ∃ q, 1 ≤ q ∧ q ≤ 8 ∧ n = nI q) ∧ u = ui (ui I 0 0 (nI 0)) 0 0 (nI 1)) ∨ (∃ q, 1 ≤ q ∧ q ≤ 8 ∧ n = nI q ∧ ((400 < f + q ∧ u = ui (ui I 0 0 (nI 0)) 0 0 (nI 2)) ∨ (f + q ≤ 400 ∧ r = nI (f + q) ∧ u = ui (fi_wr (ui I 0 0 (nI 0)) 1 f Wv q) 0 1 (nI (f + q)))))) (fun u t => ct_at (dC, dI) (va_A (wm k b I D) sz) ((fun u => wm k b u D) u) t) (va_A (wm k b I D) sz)) 0 0 (va_A (wm k b I D) sz) := by
  refine Met.ofW (cc := cMo_octets) (maxL := 5) (ret := (some .int)) (by decide) rfl ?_
  intro p e s m args below meth c s₁ B hml hv
  obtain ⟨rfl, hsz, hP, hK, hD0, hE⟩ := hv
  have hx := B.exec
  have hb := B.bytes
  have hr := B.returns
  have hts : ∀ w ∈ W0, w.before [.ref (b 0), .int n, .long (lN Wv)].toArray s = true := fun w h => atoms_spec (ws := wMo_octets) B.pre w (List.mem_cons_of_mem _ h)
  have hown : s.vm.findClass RMo = some m.cls := findClass_of_methodNamed B.named
  have hlocks := B.notSynchronized
  subst hsz
  have hD := hD0.self (sz := s.heap.size)
  generalize hAe : va_A (wm k b I D) s.heap.size = A at hD ⊢
  have hA : ∀ q : Nat, s.heap.size ≤ q → A q := fun q h => by rw [← hAe]; exact Or.inr h
  have hS : va_S A s.heap s.heap [] := va_S.rf
  have hl := lv_entry ([.ref (b 0), .int n, .long (lN Wv)]) (n := 5) (Nat.le_of_ble_eq_true rfl)
  rw [lg_entry_eq]
  generalize (lg_sl ([.ref (b 0), .int n, .long (lN Wv)]) ++ List.replicate (5 - (lg_sl ([.ref (b 0), .int n, .long (lN Wv)])).length) Slot.unset).toArray = ls at hl ⊢
  have hl : lv_has ls 5 [(0, .ref (b 0)), (1, .int n), (2, .long (lN Wv))] := hl
  refine lp_q (fun Q9 hQ9 => ?_)
  refine lv_aload_n hx hb dMo_octets_0 rfl (lv_at hl 0 rfl) ?_
  refine lv_iconst (v := nI 0) hx hb dMo_octets_1 (by decide +kernel) ?_
  refine va_put (D := (dC, dI)) (ci := 8) (fs := mo_f b I D) (v := .int (nI 0)) (ty := .int) (C := RMo) (T := TMo) (N := 27) hx hb hts inMo tyMo tyMo_ok nmMo hown hK hP hD hS 0 rfl rfl 0 (by decide) (hts _ tw_647) (fun _ h9 => h9) rfl (by decide +kernel) rfl rfl (Nat.le_of_ble_eq_true rfl) dMo_octets_2 (fun H locs hP hD hS => ?_)
  rw [wm_p0] at hP hD
  obtain ⟨I1, eI1⟩ : ∃ z, z = ui I 0 0 (nI 0) := ⟨_, rfl⟩
  rw [← eI1] at hP hD
  refine lv_aload_n hx hb dMo_octets_5 rfl (lv_at hl 0 rfl) ?_
  refine lv_iload_n hx hb dMo_octets_6 rfl (lv_at hl 1 rfl) ?_
  refine lv_i2l (v := n.toInt64) hx hb dMo_octets_7 rfl ?_
  refine lv_lconst (v := lN 1) hx hb dMo_octets_8 (by decide +kernel) ?_
  refine lv_ldc2 (v := 8) hx hb hown (hts _ tw_733) dMo_octets_9 ?_
  refine rw_l (y := lN 8) (by decide +kernel) ?_
  refine ct_i (va_runS (As := [.long n.toInt64, .long (lN 1), .long (lN 8)]) (rest := [.ref (b 0)]) ⟨hx, hb, hml, hown, hts⟩ (kMo_in l dC dI k b I1 D _ n.toInt64 (lN 1) (lN 8)) (va_cwS 3 hts (gw_S tw_734 tw_735 tw_9 tw_736) rfl rfl rfl (by decide +kernel) ⟨Nat.le_of_ble_eq_true rfl, Nat.le_of_ble_eq_true rfl⟩) ⟨ct_blind (ev := fun _ => True) (fun _ _ _ _ h => h), ct_now (ev := fun _ => True) (fun _ _ _ => trivial) hP hK hD⟩ rfl rfl hl.1 rfl (lv_room (Nat.le_of_ble_eq_true rfl)) dMo_octets_12 ⟨Nat.le_of_ble_eq_true rfl, Nat.le_of_ble_eq_true rfl⟩) hD hS hA (fun r2 u2 H locs hw2 hP hD hS => ?_)
  by_cases g12 : lN 1 ≤ n.toInt64 ∧ n.toInt64 ≤ lN 8
  · rw [if_pos g12] at hw2
    subst hw2
    refine rw_i (y := nI 1) rfl ?_
    obtain ⟨q, q1, q2, rfl⟩ := in_ab (by decide) (by decide) g12
    refine lv_if_ne (tgt := 22) hx hb dMo_octets_15 (by decide) (fun c15 => ?_) (fun c15 => ?_)
    · have c15 : ¬ 1 = 0 := fun q9 => c15 (show nI 1 = nI 0 from (nI_eq (a := 1) (b := 0) (by omega) (by omega)).mpr q9)
      refine lv_iconst (v := nI 0) hx hb dMo_octets_22 (by decide +kernel) ?_
      refine lv_iconst (v := nI 1) hx hb dMo_octets_23 (by decide +kernel) ?_
      refine ct_i (va_runV (As := [.int (nI 0), .int (nI 1)]) (rest := []) ⟨hx, hb, hml, hown, hts⟩ (kMo_fails0 l dC dI k b I1 D _ (nI 1) (by rw [eI1, ui_s])) (cwV 2 hts (gw_V tw_737 tw_739 sl_Mo_fails tw_9 tw_740) rfl rfl rfl (by decide +kernel) ⟨Nat.le_of_ble_eq_true rfl, Nat.le_of_ble_eq_true rfl⟩) ⟨ct_blind (ev := fun _ => True) (fun _ _ _ _ h => h), va_recv hK hP (ci := 8) (q0 := 0) rfl rfl, ct_now (ev := fun _ => True) (fun _ _ _ => trivial) hP hK hD⟩ rfl rfl hl.1 rfl (lv_room (Nat.le_of_ble_eq_true rfl)) dMo_octets_24 ⟨Nat.le_of_ble_eq_true rfl, Nat.le_of_ble_eq_true rfl⟩) hD hS hA (fun r3 u3 H locs hw3 hP hD hS => ?_)
      subst hw3
      refine lv_if_ne (tgt := 55) hx hb dMo_octets_27 (by decide) (fun c27 => ?_) (fun c27 => ?_)
      · have c27 : ¬ 0 = 0 := fun q9 => c27 (show nI 0 = nI 0 from (nI_eq (a := 0) (b := 0) (by omega) (by omega)).mpr q9)
        exact absurd (by decide) c27
      · have c27 : 0 = 0 := (nI_eq (a := 0) (b := 0) (by omega) (by omega)).mp (show nI 0 = nI 0 from c27)
        refine lv_aload_n hx hb dMo_octets_30 rfl (lv_at hl 0 rfl) ?_
        refine lv_aload_n hx hb dMo_octets_31 rfl (lv_at hl 0 rfl) ?_
        refine va_get (D := (dC, dI)) (ci := 8) (v := .int (I1 0 1)) (C := RMo) (T := TMo) (N := 27) hx hb hts inMo hown hK hP 0 rfl rfl 1 (by decide) (hts _ tw_648) (fun _ h9 => h9) rfl dMo_octets_32 ?_
        refine rw_i (y := I 0 1) (by rw [eI1, ui_n _ _ _ (by decide)]) ?_
        refine rw_i (y := nI f) h1 ?_
        refine lv_iload_n hx hb dMo_octets_35 rfl (lv_at hl 1 rfl) ?_
        refine lv_iadd hx hb dMo_octets_36 ?_
        refine rw_i (y := nI (f + q)) (nI_add _ _) ?_
        refine lv_sipush (v := nI 400) hx hb dMo_octets_37 (by decide +kernel) ?_
        refine lv_icmp_le (tgt := 47) hx hb dMo_octets_40 (by decide) (fun c40 => ?_) (fun c40 => ?_)
        · have c40 : (f + q) ≤ 400 := (nI_leI (a := (f + q)) (b := 400) (by omega) (by omega)).mp (show nI (f + q) ≤ nI 400 from c40)
          refine lv_iconst (v := nI 0) hx hb dMo_octets_47 (by decide +kernel) ?_
          refine lv_iconst (v := nI 2) hx hb dMo_octets_48 (by decide +kernel) ?_
          refine ct_i (va_runV (As := [.int (nI 0), .int (nI 2)]) (rest := []) ⟨hx, hb, hml, hown, hts⟩ (kMo_fails0 l dC dI k b I1 D _ (nI 2) (by rw [eI1, ui_s])) (cwV 2 hts (gw_V tw_737 tw_739 sl_Mo_fails tw_9 tw_740) rfl rfl rfl (by decide +kernel) ⟨Nat.le_of_ble_eq_true rfl, Nat.le_of_ble_eq_true rfl⟩) ⟨ct_blind (ev := fun _ => True) (fun _ _ _ _ h => h), va_recv hK hP (ci := 8) (q0 := 0) rfl rfl, ct_now (ev := fun _ => True) (fun _ _ _ => trivial) hP hK hD⟩ rfl rfl hl.1 rfl (lv_room (Nat.le_of_ble_eq_true rfl)) dMo_octets_49 ⟨Nat.le_of_ble_eq_true rfl, Nat.le_of_ble_eq_true rfl⟩) hD hS hA (fun r4 u4 H locs hw4 hP hD hS => ?_)
          subst hw4
          refine lv_if_eq (tgt := 57) hx hb dMo_octets_52 (by decide) (fun c52 => ?_) (fun c52 => ?_)
          · have c52 : 0 = 0 := (nI_eq (a := 0) (b := 0) (by omega) (by omega)).mp (show nI 0 = nI 0 from c52)
            refine lv_iconst (v := nI 0) hx hb dMo_octets_57 (by decide +kernel) ?_
            refine lv_istore (lv' := [(4, .int (nI 0)), (0, .ref (b 0)), (1, .int (nI q)), (2, .long (lN Wv))]) hx hb dMo_octets_58 hl (by decide) rfl (fun ls hl => ?_)
            have L60 : ∀ (n60 : Nat) (j : Nat), q - j < n60 → j ≤ q → ∀ (H : Heap) (locs : List Loc), va_P (dC, dI) vwCl (wm k b (fi_wr I1 1 f Wv j) D) H → va_D A (wm k b (fi_wr I1 1 f Wv j) D) → va_S A s.heap H locs → ∀ ls : Array Slot, lv_has ls 5 [(0, .ref (b 0)), (1, .int (nI q)), (2, .long (lN Wv)), (4, .int (nI j))] → W p l e (headSpec wMo_octets ({ frames := 1, cells := 0, slots := 0, locals := 25 })).room s m [.ref (b 0), .int (nI q), .long (lN Wv)].toArray below meth c H locs 0 0 Q9 (F0 m 60 ls []) := by
              intro n60
              induction n60 with
              | zero => intro j hm; exact absurd hm (Nat.not_lt_zero _)
              | succ n60 ih60 =>
                intro j hm60 hj H locs hP hD hS ls hl
                refine lv_iload hx hb dMo_octets_60 (lv_at hl 3 rfl) ?_
                refine lv_iload_n hx hb dMo_octets_62 rfl (lv_at hl 1 rfl) ?_
                refine lv_icmp_ge (tgt := 96) hx hb dMo_octets_63 (by decide) (fun c63 => ?_) (fun c63 => ?_)
                · have c63 : q ≤ j := (nI_leI (a := q) (b := j) (by omega) (by omega)).mp (show nI q ≤ nI j from c63)
                  obtain rfl : j = q := by omega
                  refine lv_aload_n hx hb dMo_octets_96 rfl (lv_at hl 0 rfl) ?_
                  refine lv_dup hx hb dMo_octets_97 rfl ?_
                  refine va_get (D := (dC, dI)) (ci := 8) (v := .int ((fi_wr I1 1 f Wv j) 0 1)) (C := RMo) (T := TMo) (N := 27) hx hb hts inMo hown hK hP 0 rfl rfl 1 (by decide) (hts _ tw_648) (fun _ h9 => h9) rfl dMo_octets_98 ?_
                  refine rw_i (y := nI f) (by rw [fi_wr_o _ _ _ _ (by decide), eI1, ui_n _ _ _ (by decide)]; exact h1) ?_
                  refine lv_iload_n hx hb dMo_octets_101 rfl (lv_at hl 1 rfl) ?_
                  refine lv_iadd hx hb dMo_octets_102 ?_
                  refine rw_i (y := nI (f + j)) (nI_add _ _) ?_
                  refine va_put (D := (dC, dI)) (ci := 8) (fs := mo_f b (fi_wr I1 1 f Wv j) D) (v := .int (nI (f + j))) (ty := .int) (C := RMo) (T := TMo) (N := 27) hx hb hts inMo tyMo tyMo_ok nmMo hown hK hP hD hS 0 rfl rfl 1 (by decide) (hts _ tw_648) (fun _ h9 => h9) rfl (by decide +kernel) rfl rfl (Nat.le_of_ble_eq_true rfl) dMo_octets_103 (fun H locs hP hD hS => ?_)
                  rw [wm_p1] at hP hD
                  obtain ⟨I5, eI5⟩ : ∃ z, z = ui (fi_wr I1 1 f Wv j) 0 1 (nI (f + j)) := ⟨_, rfl⟩
                  rw [← eI5] at hP hD
                  refine lv_aload_n hx hb dMo_octets_106 rfl (lv_at hl 0 rfl) ?_
                  refine va_get (D := (dC, dI)) (ci := 8) (v := .int (I5 0 1)) (C := RMo) (T := TMo) (N := 27) hx hb hts inMo hown hK hP 0 rfl rfl 1 (by decide) (hts _ tw_648) (fun _ h9 => h9) rfl dMo_octets_107 ?_
                  refine rw_i (y := nI (f + j)) (by rw [eI5, ui_s]) ?_
                  rw [hQ9]
                  exact ct_ri hx hb hr hlocks I5 (Or.inr ⟨j, q1, q2, rfl, Or.inr ⟨by omega, rfl, by rw [eI5, eI1]⟩⟩) hP hD hS (Nat.le_refl _) (Nat.le_refl _) dMo_octets_110
                · have c63 : ¬ q ≤ j := fun q9 => c63 (show nI q ≤ nI j from (nI_leI (a := q) (b := j) (by omega) (by omega)).mpr q9)
                  refine lv_aload_n hx hb dMo_octets_66 rfl (lv_at hl 0 rfl) ?_
                  refine va_get (D := (dC, dI)) (ci := 8) (v := .ref (b 1)) (C := RMo) (T := TMo) (N := 27) hx hb hts inMo hown hK hP 0 rfl rfl 12 (by decide) (hts _ tw_659) (fun _ h9 => h9) rfl dMo_octets_67 ?_
                  refine lv_aload_n hx hb dMo_octets_70 rfl (lv_at hl 0 rfl) ?_
                  refine va_get (D := (dC, dI)) (ci := 8) (v := .int ((fi_wr I1 1 f Wv j) 0 1)) (C := RMo) (T := TMo) (N := 27) hx hb hts inMo hown hK hP 0 rfl rfl 1 (by decide) (hts _ tw_648) (fun _ h9 => h9) rfl dMo_octets_71 ?_
                  refine rw_i (y := nI f) (by rw [fi_wr_o _ _ _ _ (by decide), eI1, ui_n _ _ _ (by decide)]; exact h1) ?_
                  refine lv_iload hx hb dMo_octets_74 (lv_at hl 3 rfl) ?_
                  refine lv_iadd hx hb dMo_octets_76 ?_
                  refine rw_i (y := nI (f + j)) (nI_add _ _) ?_
                  refine lv_lload_n hx hb dMo_octets_77 rfl (lv_at hl 2 rfl) ?_
                  refine lv_bipush (v := nI 8) hx hb dMo_octets_78 (by decide +kernel) ?_
                  refine lv_iload hx hb dMo_octets_80 (lv_at hl 3 rfl) ?_
                  refine lv_imul hx hb dMo_octets_82 ?_
                  refine rw_i (y := nI (8 * j)) (pk_mul _ _) ?_
                  refine lv_lushr (v := lN (Wv / 2 ^ (8 * j))) hx hb dMo_octets_83 (oc_shr hW (by omega)) ?_
                  refine lv_ldc2 (v := 255) hx hb hown (hts _ tw_741) dMo_octets_84 ?_
                  refine rw_l (y := lN 255) (by decide +kernel) ?_
                  refine lv_land hx hb dMo_octets_87 ?_
                  refine rw_l (y := lN (oc_w Wv j)) (oc_and hW) ?_
                  refine lv_l2i (v := nI (oc_w Wv j)) hx hb dMo_octets_88 (lN_i _) ?_
                  refine rw_ast_i hx hb hK hP hD hS 1 0 rfl rfl (by omega) (by decide) dMo_octets_89 (fun H locs hP hD hS => ?_)
                  rw [wm_a1] at hP hD
                  obtain ⟨I6, eI6⟩ : ∃ z, z = ui (fi_wr I1 1 f Wv j) 1 (f + j) (nI (oc_w Wv j)) := ⟨_, rfl⟩
                  rw [← eI6] at hP hD
                  refine lv_iinc (v := nI (j + 1)) (lv' := [(4, .int (nI (j + 1))), (0, .ref (b 0)), (1, .int (nI q)), (2, .long (lN Wv))]) hx hb dMo_octets_90 hl (k := 3) rfl (nI_1 _) (by decide) rfl (fun ls hl => ?_)
                  refine lv_goto (tgt := 60) hx hb dMo_octets_93 (by decide) ?_
                  rw [eI6] at hP hD
                  exact ih60 (j + 1) (by omega) (by omega) _ _ hP hD hS ls (lv_sub hl [1, 2, 3, 0] rfl)
            exact L60 _ 0 (Nat.lt_succ_self _) (by omega) _ _ hP hD hS ls (lv_sub hl [1, 2, 3, 0] rfl)
          · have c52 : ¬ 0 = 0 := fun q9 => c52 (show nI 0 = nI 0 from (nI_eq (a := 0) (b := 0) (by omega) (by omega)).mpr q9)
            exact absurd (by decide) c52
        · have c40 : ¬ (f + q) ≤ 400 := fun q9 => c40 (show nI (f + q) ≤ nI 400 from (nI_leI (a := (f + q)) (b := 400) (by omega) (by omega)).mpr q9)
          refine lv_iconst (v := nI 1) hx hb dMo_octets_43 (by decide +kernel) ?_
          refine lv_goto (tgt := 48) hx hb dMo_octets_44 (by decide) ?_
          refine lv_iconst (v := nI 2) hx hb dMo_octets_48 (by decide +kernel) ?_
          refine ct_i (va_runV (As := [.int (nI 1), .int (nI 2)]) (rest := []) ⟨hx, hb, hml, hown, hts⟩ (kMo_fails1 l dC dI k b I1 D _ 2 (by omega) (by omega) (by rw [eI1, ui_s])) (cwV 2 hts (gw_V tw_737 tw_739 sl_Mo_fails tw_9 tw_740) rfl rfl rfl (by decide +kernel) ⟨Nat.le_of_ble_eq_true rfl, Nat.le_of_ble_eq_true rfl⟩) ⟨ct_blind (ev := fun _ => True) (fun _ _ _ _ h => h), va_recv hK hP (ci := 8) (q0 := 0) rfl rfl, ct_now (ev := fun _ => True) (fun _ _ _ => trivial) hP hK hD⟩ rfl rfl hl.1 rfl (lv_room (Nat.le_of_ble_eq_true rfl)) dMo_octets_49 ⟨Nat.le_of_ble_eq_true rfl, Nat.le_of_ble_eq_true rfl⟩) hD hS hA (fun r7 u7 H locs hw7 hP hD hS => ?_)
          obtain ⟨r7e, eu7⟩ := hw7
          subst r7e
          refine lv_if_eq (tgt := 57) hx hb dMo_octets_52 (by decide) (fun c52 => ?_) (fun c52 => ?_)
          · have c52 : 1 = 0 := (nI_eq (a := 1) (b := 0) (by omega) (by omega)).mp (show nI 1 = nI 0 from c52)
            exact absurd c52 (by decide)
          · have c52 : ¬ 1 = 0 := fun q9 => c52 (show nI 1 = nI 0 from (nI_eq (a := 1) (b := 0) (by omega) (by omega)).mpr q9)
            refine lv_iconst (v := nI 0) hx hb dMo_octets_55 (by decide +kernel) ?_
            rw [hQ9]
            exact ct_ri hx hb hr hlocks u7 (Or.inr ⟨q, q1, q2, rfl, Or.inl ⟨by omega, by rw [eu7, eI1]⟩⟩) hP hD hS (Nat.le_refl _) (Nat.le_refl _) dMo_octets_56
    · have c15 : 1 = 0 := (nI_eq (a := 1) (b := 0) (by omega) (by omega)).mp (show nI 1 = nI 0 from c15)
      exact absurd c15 (by decide)
  · rw [if_neg g12] at hw2
    subst hw2
    refine rw_i (y := nI 0) rfl ?_
    refine lv_if_ne (tgt := 22) hx hb dMo_octets_15 (by decide) (fun c15 => ?_) (fun c15 => ?_)
    · have c15 : ¬ 0 = 0 := fun q9 => c15 (show nI 0 = nI 0 from (nI_eq (a := 0) (b := 0) (by omega) (by omega)).mpr q9)
      exact absurd (by decide) c15
    · have c15 : 0 = 0 := (nI_eq (a := 0) (b := 0) (by omega) (by omega)).mp (show nI 0 = nI 0 from c15)
      refine lv_iconst (v := nI 1) hx hb dMo_octets_18 (by decide +kernel) ?_
      refine lv_goto (tgt := 23) hx hb dMo_octets_19 (by decide) ?_
      refine lv_iconst (v := nI 1) hx hb dMo_octets_23 (by decide +kernel) ?_
      refine ct_i (va_runV (As := [.int (nI 1), .int (nI 1)]) (rest := []) ⟨hx, hb, hml, hown, hts⟩ (kMo_fails1 l dC dI k b I1 D _ 1 (by omega) (by omega) (by rw [eI1, ui_s])) (cwV 2 hts (gw_V tw_737 tw_739 sl_Mo_fails tw_9 tw_740) rfl rfl rfl (by decide +kernel) ⟨Nat.le_of_ble_eq_true rfl, Nat.le_of_ble_eq_true rfl⟩) ⟨ct_blind (ev := fun _ => True) (fun _ _ _ _ h => h), va_recv hK hP (ci := 8) (q0 := 0) rfl rfl, ct_now (ev := fun _ => True) (fun _ _ _ => trivial) hP hK hD⟩ rfl rfl hl.1 rfl (lv_room (Nat.le_of_ble_eq_true rfl)) dMo_octets_24 ⟨Nat.le_of_ble_eq_true rfl, Nat.le_of_ble_eq_true rfl⟩) hD hS hA (fun r8 u8 H locs hw8 hP hD hS => ?_)
      obtain ⟨r8e, eu8⟩ := hw8
      subst r8e
      refine lv_if_ne (tgt := 55) hx hb dMo_octets_27 (by decide) (fun c27 => ?_) (fun c27 => ?_)
      · have c27 : ¬ 1 = 0 := fun q9 => c27 (show nI 1 = nI 0 from (nI_eq (a := 1) (b := 0) (by omega) (by omega)).mpr q9)
        refine lv_iconst (v := nI 0) hx hb dMo_octets_55 (by decide +kernel) ?_
        rw [hQ9]
        exact ct_ri hx hb hr hlocks u8 (Or.inl ⟨fun q => g12 (in_ba (by decide) (by decide) q), by rw [eu8, eI1]⟩) hP hD hS (Nat.le_refl _) (Nat.le_refl _) dMo_octets_56
      · have c27 : 1 = 0 := (nI_eq (a := 1) (b := 0) (by omega) (by omega)).mp (show nI 1 = nI 0 from c27)
        exact absurd c27 (by decide)
set_option maxHeartbeats 4000000 in
set_option maxRecDepth 100000 in
theorem kMo_power (l : Launch) (dC : Nat → ClassId) (dI : Nat → Nat → Nat) (k : Nat → ClassId) (b : Nat → Nat) (I : Nat → Nat → Int32) (D : Nat → Nat → UInt64) (sz : Nat) (f9 k9 : Int32) (ns : Nat) (hn : ns ≤ 320) (h3 : I 0 3 = nI ns) (hsm : ∀ i, i < ns → fb_ 1057 (D 1 i)) (hc : ∀ j, j < 32 → D 7 j = hd_C j) (hsn : ∀ j, j < 32 → D 8 j = hd_S j) : Met l yMo_power wMo_power ({ frames := 1, cells := 0, slots := 0, locals := 29 }) (va_Pc [.ref (b 0), .int f9, .int k9] (ct_pre (dC, dI) (mo_ty k) (fun _ => True) (wm k b I D) sz)) (va_Qd (fun r (u : Nat → Nat → Int32) => ((¬ ∃ j, j < hd_nf ns ∧ f9 = nI j) ∧ u = ui (ui I 0 0 (nI 0)) 0 0 (nI 1)) ∨ (∃ j, j < hd_nf ns ∧ f9 = nI j ∧ (((¬ ∃ q, 0 ≤ q ∧ q ≤ 16 ∧ k9 = nI q) ∧ u = ui (ui I 0 0 (nI 0)) 0 0 (nI 2)) ∨ (∃ q, 0 ≤ q ∧ q ≤ 16 ∧ k9 = nI q ∧ u = ui I 0 0 (nI 0) ∧ r = hd_P (D 1) j q)))) (fun u t => ct_at (dC, dI) (va_A (wm k b I D) sz) ((fun u => wm k b u D) u) t) (va_A (wm k b I D) sz)) 0 0 (va_A (wm k b I D) sz) := by
  refine Met.ofW (cc := cMo_power) (maxL := 3) (ret := (some .double)) (by decide) rfl ?_
  intro p e s m args below meth c s₁ B hml hv
  obtain ⟨rfl, hsz, hP, hK, hD0, hE⟩ := hv
  have hx := B.exec
  have hb := B.bytes
  have hr := B.returns
  have hts : ∀ w ∈ W0, w.before [.ref (b 0), .int f9, .int k9].toArray s = true := fun w h => atoms_spec (ws := wMo_power) B.pre w (List.mem_cons_of_mem _ h)
  have hown : s.vm.findClass RMo = some m.cls := findClass_of_methodNamed B.named
  have hlocks := B.notSynchronized
  subst hsz
  have hD := hD0.self (sz := s.heap.size)
  generalize hAe : va_A (wm k b I D) s.heap.size = A at hD ⊢
  have hA : ∀ q : Nat, s.heap.size ≤ q → A q := fun q h => by rw [← hAe]; exact Or.inr h
  have hS : va_S A s.heap s.heap [] := va_S.rf
  have hl := lv_entry ([.ref (b 0), .int f9, .int k9]) (n := 3) (Nat.le_of_ble_eq_true rfl)
  rw [lg_entry_eq]
  generalize (lg_sl ([.ref (b 0), .int f9, .int k9]) ++ List.replicate (3 - (lg_sl ([.ref (b 0), .int f9, .int k9])).length) Slot.unset).toArray = ls at hl ⊢
  have hl : lv_has ls 3 [(0, .ref (b 0)), (1, .int f9), (2, .int k9)] := hl
  refine lv_aload_n hx hb dMo_power_0 rfl (lv_at hl 0 rfl) ?_
  refine lv_iconst (v := nI 0) hx hb dMo_power_1 (by decide +kernel) ?_
  refine va_put (D := (dC, dI)) (ci := 8) (fs := mo_f b I D) (v := .int (nI 0)) (ty := .int) (C := RMo) (T := TMo) (N := 27) hx hb hts inMo tyMo tyMo_ok nmMo hown hK hP hD hS 0 rfl rfl 0 (by decide) (hts _ tw_647) (fun _ h9 => h9) rfl (by decide +kernel) rfl rfl (Nat.le_of_ble_eq_true rfl) dMo_power_2 (fun H locs hP hD hS => ?_)
  rw [wm_p0] at hP hD
  obtain ⟨I1, eI1⟩ : ∃ z, z = ui I 0 0 (nI 0) := ⟨_, rfl⟩
  rw [← eI1] at hP hD
  refine lv_aload_n hx hb dMo_power_5 rfl (lv_at hl 0 rfl) ?_
  refine lv_iload_n hx hb dMo_power_6 rfl (lv_at hl 1 rfl) ?_
  refine lv_i2l (v := f9.toInt64) hx hb dMo_power_7 rfl ?_
  refine lv_lconst (v := lN 0) hx hb dMo_power_8 (by decide +kernel) ?_
  refine lv_aload_n hx hb dMo_power_9 rfl (lv_at hl 0 rfl) ?_
  refine ct_i (va_runV (As := []) (rest := [.long (lN 0), .long f9.toInt64, .ref (b 0)]) ⟨hx, hb, hml, hown, hts⟩ (kMo_frames l dC dI k b I1 D _ ns hn (by rw [eI1, ui_n _ _ _ (by decide)]; exact h3)) (cwV 0 hts (gw_V tw_790 tw_792 sl_Mo_frames tw_9 tw_793) rfl rfl rfl (by decide +kernel) ⟨Nat.le_of_ble_eq_true rfl, Nat.le_of_ble_eq_true rfl⟩) ⟨ct_blind (ev := fun _ => True) (fun _ _ _ _ h => h), va_recv hK hP (ci := 8) (q0 := 0) rfl rfl, ct_now (ev := fun _ => True) (fun _ _ _ => trivial) hP hK hD⟩ rfl rfl hl.1 rfl (lv_room (Nat.le_of_ble_eq_true rfl)) dMo_power_10 ⟨Nat.le_of_ble_eq_true rfl, Nat.le_of_ble_eq_true rfl⟩) hD hS hA (fun r2 u2 H locs hw2 hP hD hS => ?_)
  subst hw2
  refine lv_iconst (v := nI 1) hx hb dMo_power_13 (by decide +kernel) ?_
  refine lv_isub hx hb dMo_power_14 ?_
  refine lv_i2l (v := ((nI (hd_nf ns)) - (nI 1)).toInt64) hx hb dMo_power_15 rfl ?_
  refine ct_i (va_runS (As := [.long f9.toInt64, .long (lN 0), .long (((nI (hd_nf ns)) - (nI 1)).toInt64)]) (rest := [.ref (b 0)]) ⟨hx, hb, hml, hown, hts⟩ (kMo_in l dC dI k b I1 D _ f9.toInt64 (lN 0) (((nI (hd_nf ns)) - (nI 1)).toInt64)) (va_cwS 3 hts (gw_S tw_734 tw_735 tw_9 tw_736) rfl rfl rfl (by decide +kernel) ⟨Nat.le_of_ble_eq_true rfl, Nat.le_of_ble_eq_true rfl⟩) ⟨ct_blind (ev := fun _ => True) (fun _ _ _ _ h => h), ct_now (ev := fun _ => True) (fun _ _ _ => trivial) hP hK hD⟩ rfl rfl hl.1 rfl (lv_room (Nat.le_of_ble_eq_true rfl)) dMo_power_16 ⟨Nat.le_of_ble_eq_true rfl, Nat.le_of_ble_eq_true rfl⟩) hD hS hA (fun r3 u3 H locs hw3 hP hD hS => ?_)
  by_cases g16 : lN 0 ≤ f9.toInt64 ∧ f9.toInt64 ≤ ((nI (hd_nf ns)) - (nI 1)).toInt64
  · rw [if_pos g16] at hw3
    subst hw3
    refine rw_i (y := nI 1) rfl ?_
    obtain ⟨j, hj, rfl⟩ := in_0n (Nat.le_trans (nf_le hn) (by decide)) g16
    have hj2 := nf_lt hj
    refine lv_if_ne (tgt := 26) hx hb dMo_power_19 (by decide) (fun c19 => ?_) (fun c19 => ?_)
    · have c19 : ¬ 1 = 0 := fun q9 => c19 (show nI 1 = nI 0 from (nI_eq (a := 1) (b := 0) (by omega) (by omega)).mpr q9)
      refine lv_iconst (v := nI 0) hx hb dMo_power_26 (by decide +kernel) ?_
      refine lv_iconst (v := nI 1) hx hb dMo_power_27 (by decide +kernel) ?_
      refine ct_i (va_runV (As := [.int (nI 0), .int (nI 1)]) (rest := []) ⟨hx, hb, hml, hown, hts⟩ (kMo_fails0 l dC dI k b I1 D _ (nI 1) (by rw [eI1, ui_s])) (cwV 2 hts (gw_V tw_737 tw_739 sl_Mo_fails tw_9 tw_740) rfl rfl rfl (by decide +kernel) ⟨Nat.le_of_ble_eq_true rfl, Nat.le_of_ble_eq_true rfl⟩) ⟨ct_blind (ev := fun _ => True) (fun _ _ _ _ h => h), va_recv hK hP (ci := 8) (q0 := 0) rfl rfl, ct_now (ev := fun _ => True) (fun _ _ _ => trivial) hP hK hD⟩ rfl rfl hl.1 rfl (lv_room (Nat.le_of_ble_eq_true rfl)) dMo_power_28 ⟨Nat.le_of_ble_eq_true rfl, Nat.le_of_ble_eq_true rfl⟩) hD hS hA (fun r4 u4 H locs hw4 hP hD hS => ?_)
      subst hw4
      refine lv_if_ne (tgt := 59) hx hb dMo_power_31 (by decide) (fun c31 => ?_) (fun c31 => ?_)
      · have c31 : ¬ 0 = 0 := fun q9 => c31 (show nI 0 = nI 0 from (nI_eq (a := 0) (b := 0) (by omega) (by omega)).mpr q9)
        exact absurd (by decide) c31
      · have c31 : 0 = 0 := (nI_eq (a := 0) (b := 0) (by omega) (by omega)).mp (show nI 0 = nI 0 from c31)
        refine lv_aload_n hx hb dMo_power_34 rfl (lv_at hl 0 rfl) ?_
        refine lv_iload_n hx hb dMo_power_35 rfl (lv_at hl 2 rfl) ?_
        refine lv_i2l (v := k9.toInt64) hx hb dMo_power_36 rfl ?_
        refine lv_lconst (v := lN 0) hx hb dMo_power_37 (by decide +kernel) ?_
        refine lv_ldc2 (v := 16) hx hb hown (hts _ tw_758) dMo_power_38 ?_
        refine rw_l (y := lN 16) (by decide +kernel) ?_
        refine ct_i (va_runS (As := [.long k9.toInt64, .long (lN 0), .long (lN 16)]) (rest := [.ref (b 0)]) ⟨hx, hb, hml, hown, hts⟩ (kMo_in l dC dI k b I1 D _ k9.toInt64 (lN 0) (lN 16)) (va_cwS 3 hts (gw_S tw_734 tw_735 tw_9 tw_736) rfl rfl rfl (by decide +kernel) ⟨Nat.le_of_ble_eq_true rfl, Nat.le_of_ble_eq_true rfl⟩) ⟨ct_blind (ev := fun _ => True) (fun _ _ _ _ h => h), ct_now (ev := fun _ => True) (fun _ _ _ => trivial) hP hK hD⟩ rfl rfl hl.1 rfl (lv_room (Nat.le_of_ble_eq_true rfl)) dMo_power_41 ⟨Nat.le_of_ble_eq_true rfl, Nat.le_of_ble_eq_true rfl⟩) hD hS hA (fun r5 u5 H locs hw5 hP hD hS => ?_)
        by_cases g41 : lN 0 ≤ k9.toInt64 ∧ k9.toInt64 ≤ lN 16
        · rw [if_pos g41] at hw5
          subst hw5
          refine rw_i (y := nI 1) rfl ?_
          obtain ⟨q, q1, q2, rfl⟩ := in_ab (by decide) (by decide) g41
          refine lv_if_ne (tgt := 51) hx hb dMo_power_44 (by decide) (fun c44 => ?_) (fun c44 => ?_)
          · have c44 : ¬ 1 = 0 := fun q9 => c44 (show nI 1 = nI 0 from (nI_eq (a := 1) (b := 0) (by omega) (by omega)).mpr q9)
            refine lv_iconst (v := nI 0) hx hb dMo_power_51 (by decide +kernel) ?_
            refine lv_iconst (v := nI 2) hx hb dMo_power_52 (by decide +kernel) ?_
            refine ct_i (va_runV (As := [.int (nI 0), .int (nI 2)]) (rest := []) ⟨hx, hb, hml, hown, hts⟩ (kMo_fails0 l dC dI k b I1 D _ (nI 2) (by rw [eI1, ui_s])) (cwV 2 hts (gw_V tw_737 tw_739 sl_Mo_fails tw_9 tw_740) rfl rfl rfl (by decide +kernel) ⟨Nat.le_of_ble_eq_true rfl, Nat.le_of_ble_eq_true rfl⟩) ⟨ct_blind (ev := fun _ => True) (fun _ _ _ _ h => h), va_recv hK hP (ci := 8) (q0 := 0) rfl rfl, ct_now (ev := fun _ => True) (fun _ _ _ => trivial) hP hK hD⟩ rfl rfl hl.1 rfl (lv_room (Nat.le_of_ble_eq_true rfl)) dMo_power_53 ⟨Nat.le_of_ble_eq_true rfl, Nat.le_of_ble_eq_true rfl⟩) hD hS hA (fun r6 u6 H locs hw6 hP hD hS => ?_)
            subst hw6
            refine lv_if_eq (tgt := 63) hx hb dMo_power_56 (by decide) (fun c56 => ?_) (fun c56 => ?_)
            · have c56 : 0 = 0 := (nI_eq (a := 0) (b := 0) (by omega) (by omega)).mp (show nI 0 = nI 0 from c56)
              refine lv_aload_n hx hb dMo_power_63 rfl (lv_at hl 0 rfl) ?_
              refine lv_iload_n hx hb dMo_power_64 rfl (lv_at hl 1 rfl) ?_
              refine lv_iload_n hx hb dMo_power_65 rfl (lv_at hl 2 rfl) ?_
              refine ct_d (va_runV (As := [.int (nI j), .int (nI q)]) (rest := []) ⟨hx, hb, hml, hown, hts⟩ (kMo_powerOf l dC dI k b I1 D _ j q (by omega) q2 (fun i hi => hsm _ (by omega)) hc hsn) (cwV 2 hts (gw_V tw_794 tw_796 sl_Mo_powerOf tw_9 tw_797) rfl rfl rfl (by decide +kernel) ⟨Nat.le_of_ble_eq_true rfl, Nat.le_of_ble_eq_true rfl⟩) ⟨ct_blind (ev := fun _ => True) (fun _ _ _ _ h => h), va_recv hK hP (ci := 8) (q0 := 0) rfl rfl, ct_now (ev := fun _ => True) (fun _ _ _ => trivial) hP hK hD⟩ rfl rfl hl.1 rfl (lv_room (Nat.le_of_ble_eq_true rfl)) dMo_power_66 ⟨Nat.le_of_ble_eq_true rfl, Nat.le_of_ble_eq_true rfl⟩) hD hS hA (fun r7 u7 H locs hw7 hP hD hS => ?_)
              subst hw7
              exact ct_rd hx hb hr hlocks I1 (Or.inr ⟨j, hj, rfl, Or.inr ⟨q, q1, q2, rfl, by rw [eI1], rfl⟩⟩) hP hD hS (Nat.le_refl _) (Nat.le_refl _) dMo_power_69
            · have c56 : ¬ 0 = 0 := fun q9 => c56 (show nI 0 = nI 0 from (nI_eq (a := 0) (b := 0) (by omega) (by omega)).mpr q9)
              exact absurd (by decide) c56
          · have c44 : 1 = 0 := (nI_eq (a := 1) (b := 0) (by omega) (by omega)).mp (show nI 1 = nI 0 from c44)
            exact absurd c44 (by decide)
        · rw [if_neg g41] at hw5
          subst hw5
          refine rw_i (y := nI 0) rfl ?_
          refine lv_if_ne (tgt := 51) hx hb dMo_power_44 (by decide) (fun c44 => ?_) (fun c44 => ?_)
          · have c44 : ¬ 0 = 0 := fun q9 => c44 (show nI 0 = nI 0 from (nI_eq (a := 0) (b := 0) (by omega) (by omega)).mpr q9)
            exact absurd (by decide) c44
          · have c44 : 0 = 0 := (nI_eq (a := 0) (b := 0) (by omega) (by omega)).mp (show nI 0 = nI 0 from c44)
            refine lv_iconst (v := nI 1) hx hb dMo_power_47 (by decide +kernel) ?_
            refine lv_goto (tgt := 52) hx hb dMo_power_48 (by decide) ?_
            refine lv_iconst (v := nI 2) hx hb dMo_power_52 (by decide +kernel) ?_
            refine ct_i (va_runV (As := [.int (nI 1), .int (nI 2)]) (rest := []) ⟨hx, hb, hml, hown, hts⟩ (kMo_fails1 l dC dI k b I1 D _ 2 (by omega) (by omega) (by rw [eI1, ui_s])) (cwV 2 hts (gw_V tw_737 tw_739 sl_Mo_fails tw_9 tw_740) rfl rfl rfl (by decide +kernel) ⟨Nat.le_of_ble_eq_true rfl, Nat.le_of_ble_eq_true rfl⟩) ⟨ct_blind (ev := fun _ => True) (fun _ _ _ _ h => h), va_recv hK hP (ci := 8) (q0 := 0) rfl rfl, ct_now (ev := fun _ => True) (fun _ _ _ => trivial) hP hK hD⟩ rfl rfl hl.1 rfl (lv_room (Nat.le_of_ble_eq_true rfl)) dMo_power_53 ⟨Nat.le_of_ble_eq_true rfl, Nat.le_of_ble_eq_true rfl⟩) hD hS hA (fun r8 u8 H locs hw8 hP hD hS => ?_)
            obtain ⟨r8e, eu8⟩ := hw8
            subst r8e
            refine lv_if_eq (tgt := 63) hx hb dMo_power_56 (by decide) (fun c56 => ?_) (fun c56 => ?_)
            · have c56 : 1 = 0 := (nI_eq (a := 1) (b := 0) (by omega) (by omega)).mp (show nI 1 = nI 0 from c56)
              exact absurd c56 (by decide)
            · have c56 : ¬ 1 = 0 := fun q9 => c56 (show nI 1 = nI 0 from (nI_eq (a := 1) (b := 0) (by omega) (by omega)).mpr q9)
              refine lv_dconst0 hx hb dMo_power_59 ?_
              refine rw_d (y := 0) rfl ?_
              refine lv_goto (tgt := 69) hx hb dMo_power_60 (by decide) ?_
              exact ct_rd hx hb hr hlocks u8 (Or.inr ⟨j, hj, rfl, Or.inl ⟨fun q => g41 (in_ba (by decide) (by decide) q), by rw [eu8, eI1]⟩⟩) hP hD hS (Nat.le_refl _) (Nat.le_refl _) dMo_power_69
    · have c19 : 1 = 0 := (nI_eq (a := 1) (b := 0) (by omega) (by omega)).mp (show nI 1 = nI 0 from c19)
      exact absurd c19 (by decide)
  · rw [if_neg g16] at hw3
    subst hw3
    refine rw_i (y := nI 0) rfl ?_
    refine lv_if_ne (tgt := 26) hx hb dMo_power_19 (by decide) (fun c19 => ?_) (fun c19 => ?_)
    · have c19 : ¬ 0 = 0 := fun q9 => c19 (show nI 0 = nI 0 from (nI_eq (a := 0) (b := 0) (by omega) (by omega)).mpr q9)
      exact absurd (by decide) c19
    · have c19 : 0 = 0 := (nI_eq (a := 0) (b := 0) (by omega) (by omega)).mp (show nI 0 = nI 0 from c19)
      refine lv_iconst (v := nI 1) hx hb dMo_power_22 (by decide +kernel) ?_
      refine lv_goto (tgt := 27) hx hb dMo_power_23 (by decide) ?_
      refine lv_iconst (v := nI 1) hx hb dMo_power_27 (by decide +kernel) ?_
      refine ct_i (va_runV (As := [.int (nI 1), .int (nI 1)]) (rest := []) ⟨hx, hb, hml, hown, hts⟩ (kMo_fails1 l dC dI k b I1 D _ 1 (by omega) (by omega) (by rw [eI1, ui_s])) (cwV 2 hts (gw_V tw_737 tw_739 sl_Mo_fails tw_9 tw_740) rfl rfl rfl (by decide +kernel) ⟨Nat.le_of_ble_eq_true rfl, Nat.le_of_ble_eq_true rfl⟩) ⟨ct_blind (ev := fun _ => True) (fun _ _ _ _ h => h), va_recv hK hP (ci := 8) (q0 := 0) rfl rfl, ct_now (ev := fun _ => True) (fun _ _ _ => trivial) hP hK hD⟩ rfl rfl hl.1 rfl (lv_room (Nat.le_of_ble_eq_true rfl)) dMo_power_28 ⟨Nat.le_of_ble_eq_true rfl, Nat.le_of_ble_eq_true rfl⟩) hD hS hA (fun r9 u9 H locs hw9 hP hD hS => ?_)
      obtain ⟨r9e, eu9⟩ := hw9
      subst r9e
      refine lv_if_ne (tgt := 59) hx hb dMo_power_31 (by decide) (fun c31 => ?_) (fun c31 => ?_)
      · have c31 : ¬ 1 = 0 := fun q9 => c31 (show nI 1 = nI 0 from (nI_eq (a := 1) (b := 0) (by omega) (by omega)).mpr q9)
        refine lv_dconst0 hx hb dMo_power_59 ?_
        refine rw_d (y := 0) rfl ?_
        refine lv_goto (tgt := 69) hx hb dMo_power_60 (by decide) ?_
        exact ct_rd hx hb hr hlocks u9 (Or.inl ⟨fun q => g16 (in_n0 (Nat.le_trans (nf_le hn) (by decide)) q), by rw [eu9, eI1]⟩) hP hD hS (Nat.le_refl _) (Nat.le_refl _) dMo_power_69
      · have c31 : 1 = 0 := (nI_eq (a := 1) (b := 0) (by omega) (by omega)).mp (show nI 1 = nI 0 from c31)
        exact absurd c31 (by decide)
set_option maxHeartbeats 4000000 in
set_option maxRecDepth 100000 in
theorem kMo_level (l : Launch) (dC : Nat → ClassId) (dI : Nat → Nat → Nat) (k : Nat → ClassId) (b : Nat → Nat) (I : Nat → Nat → Int32) (D : Nat → Nat → UInt64) (sz : Nat) (f9 k9 : Int32) (ns : Nat) (hn : ns ≤ 320) (h3 : I 0 3 = nI ns) (hsm : ∀ i, i < ns → fb_ 1057 (D 1 i)) (hc : ∀ j, j < 32 → D 7 j = hd_C j) (hsn : ∀ j, j < 32 → D 8 j = hd_S j) : Met l yMo_level wMo_level ({ frames := 3, cells := 0, slots := 0, locals := 80 }) (va_Pc [.ref (b 0), .int f9, .int k9] (ct_pre (dC, dI) (mo_ty k) (fun _ => True) (wm k b I D) sz)) (va_Qd (fun r (u : Nat → Nat → Int32) => ((¬ ∃ j, j < hd_nf ns ∧ f9 = nI j) ∧ u = ui (ui I 0 0 (nI 0)) 0 0 (nI 1)) ∨ (∃ j, j < hd_nf ns ∧ f9 = nI j ∧ (((¬ ∃ q, 0 ≤ q ∧ q ≤ 3 ∧ k9 = nI q) ∧ u = ui (ui I 0 0 (nI 0)) 0 0 (nI 2)) ∨ (∃ q, 0 ≤ q ∧ q ≤ 3 ∧ k9 = nI q ∧ u = ui I 0 0 (nI 0) ∧ r = hd_lev (D 1) j q)))) (fun u t => ct_at (dC, dI) (va_A (wm k b I D) sz) ((fun u => wm k b u D) u) t) (va_A (wm k b I D) sz)) 0 0 (va_A (wm k b I D) sz) := by
  refine Met.ofW (cc := cMo_level) (maxL := 3) (ret := (some .double)) (by decide) rfl ?_
  intro p e s m args below meth c s₁ B hml hv
  obtain ⟨rfl, hsz, hP, hK, hD0, hE⟩ := hv
  have hx := B.exec
  have hb := B.bytes
  have hr := B.returns
  have hts : ∀ w ∈ W0, w.before [.ref (b 0), .int f9, .int k9].toArray s = true := fun w h => atoms_spec (ws := wMo_level) B.pre w (List.mem_cons_of_mem _ h)
  have hown : s.vm.findClass RMo = some m.cls := findClass_of_methodNamed B.named
  have hlocks := B.notSynchronized
  subst hsz
  have hD := hD0.self (sz := s.heap.size)
  generalize hAe : va_A (wm k b I D) s.heap.size = A at hD ⊢
  have hA : ∀ q : Nat, s.heap.size ≤ q → A q := fun q h => by rw [← hAe]; exact Or.inr h
  have hS : va_S A s.heap s.heap [] := va_S.rf
  have hl := lv_entry ([.ref (b 0), .int f9, .int k9]) (n := 3) (Nat.le_of_ble_eq_true rfl)
  rw [lg_entry_eq]
  generalize (lg_sl ([.ref (b 0), .int f9, .int k9]) ++ List.replicate (3 - (lg_sl ([.ref (b 0), .int f9, .int k9])).length) Slot.unset).toArray = ls at hl ⊢
  have hl : lv_has ls 3 [(0, .ref (b 0)), (1, .int f9), (2, .int k9)] := hl
  refine lv_aload_n hx hb dMo_level_0 rfl (lv_at hl 0 rfl) ?_
  refine lv_iconst (v := nI 0) hx hb dMo_level_1 (by decide +kernel) ?_
  refine va_put (D := (dC, dI)) (ci := 8) (fs := mo_f b I D) (v := .int (nI 0)) (ty := .int) (C := RMo) (T := TMo) (N := 27) hx hb hts inMo tyMo tyMo_ok nmMo hown hK hP hD hS 0 rfl rfl 0 (by decide) (hts _ tw_647) (fun _ h9 => h9) rfl (by decide +kernel) rfl rfl (Nat.le_of_ble_eq_true rfl) dMo_level_2 (fun H locs hP hD hS => ?_)
  rw [wm_p0] at hP hD
  obtain ⟨I1, eI1⟩ : ∃ z, z = ui I 0 0 (nI 0) := ⟨_, rfl⟩
  rw [← eI1] at hP hD
  refine lv_aload_n hx hb dMo_level_5 rfl (lv_at hl 0 rfl) ?_
  refine lv_iload_n hx hb dMo_level_6 rfl (lv_at hl 1 rfl) ?_
  refine lv_i2l (v := f9.toInt64) hx hb dMo_level_7 rfl ?_
  refine lv_lconst (v := lN 0) hx hb dMo_level_8 (by decide +kernel) ?_
  refine lv_aload_n hx hb dMo_level_9 rfl (lv_at hl 0 rfl) ?_
  refine ct_i (va_runV (As := []) (rest := [.long (lN 0), .long f9.toInt64, .ref (b 0)]) ⟨hx, hb, hml, hown, hts⟩ (kMo_frames l dC dI k b I1 D _ ns hn (by rw [eI1, ui_n _ _ _ (by decide)]; exact h3)) (cwV 0 hts (gw_V tw_790 tw_792 sl_Mo_frames tw_9 tw_793) rfl rfl rfl (by decide +kernel) ⟨Nat.le_of_ble_eq_true rfl, Nat.le_of_ble_eq_true rfl⟩) ⟨ct_blind (ev := fun _ => True) (fun _ _ _ _ h => h), va_recv hK hP (ci := 8) (q0 := 0) rfl rfl, ct_now (ev := fun _ => True) (fun _ _ _ => trivial) hP hK hD⟩ rfl rfl hl.1 rfl (lv_room (Nat.le_of_ble_eq_true rfl)) dMo_level_10 ⟨Nat.le_of_ble_eq_true rfl, Nat.le_of_ble_eq_true rfl⟩) hD hS hA (fun r2 u2 H locs hw2 hP hD hS => ?_)
  subst hw2
  refine lv_iconst (v := nI 1) hx hb dMo_level_13 (by decide +kernel) ?_
  refine lv_isub hx hb dMo_level_14 ?_
  refine lv_i2l (v := ((nI (hd_nf ns)) - (nI 1)).toInt64) hx hb dMo_level_15 rfl ?_
  refine ct_i (va_runS (As := [.long f9.toInt64, .long (lN 0), .long (((nI (hd_nf ns)) - (nI 1)).toInt64)]) (rest := [.ref (b 0)]) ⟨hx, hb, hml, hown, hts⟩ (kMo_in l dC dI k b I1 D _ f9.toInt64 (lN 0) (((nI (hd_nf ns)) - (nI 1)).toInt64)) (va_cwS 3 hts (gw_S tw_734 tw_735 tw_9 tw_736) rfl rfl rfl (by decide +kernel) ⟨Nat.le_of_ble_eq_true rfl, Nat.le_of_ble_eq_true rfl⟩) ⟨ct_blind (ev := fun _ => True) (fun _ _ _ _ h => h), ct_now (ev := fun _ => True) (fun _ _ _ => trivial) hP hK hD⟩ rfl rfl hl.1 rfl (lv_room (Nat.le_of_ble_eq_true rfl)) dMo_level_16 ⟨Nat.le_of_ble_eq_true rfl, Nat.le_of_ble_eq_true rfl⟩) hD hS hA (fun r3 u3 H locs hw3 hP hD hS => ?_)
  by_cases g16 : lN 0 ≤ f9.toInt64 ∧ f9.toInt64 ≤ ((nI (hd_nf ns)) - (nI 1)).toInt64
  · rw [if_pos g16] at hw3
    subst hw3
    refine rw_i (y := nI 1) rfl ?_
    obtain ⟨j, hj, rfl⟩ := in_0n (Nat.le_trans (nf_le hn) (by decide)) g16
    have hj2 := nf_lt hj
    refine lv_if_ne (tgt := 26) hx hb dMo_level_19 (by decide) (fun c19 => ?_) (fun c19 => ?_)
    · have c19 : ¬ 1 = 0 := fun q9 => c19 (show nI 1 = nI 0 from (nI_eq (a := 1) (b := 0) (by omega) (by omega)).mpr q9)
      refine lv_iconst (v := nI 0) hx hb dMo_level_26 (by decide +kernel) ?_
      refine lv_iconst (v := nI 1) hx hb dMo_level_27 (by decide +kernel) ?_
      refine ct_i (va_runV (As := [.int (nI 0), .int (nI 1)]) (rest := []) ⟨hx, hb, hml, hown, hts⟩ (kMo_fails0 l dC dI k b I1 D _ (nI 1) (by rw [eI1, ui_s])) (cwV 2 hts (gw_V tw_737 tw_739 sl_Mo_fails tw_9 tw_740) rfl rfl rfl (by decide +kernel) ⟨Nat.le_of_ble_eq_true rfl, Nat.le_of_ble_eq_true rfl⟩) ⟨ct_blind (ev := fun _ => True) (fun _ _ _ _ h => h), va_recv hK hP (ci := 8) (q0 := 0) rfl rfl, ct_now (ev := fun _ => True) (fun _ _ _ => trivial) hP hK hD⟩ rfl rfl hl.1 rfl (lv_room (Nat.le_of_ble_eq_true rfl)) dMo_level_28 ⟨Nat.le_of_ble_eq_true rfl, Nat.le_of_ble_eq_true rfl⟩) hD hS hA (fun r4 u4 H locs hw4 hP hD hS => ?_)
      subst hw4
      refine lv_if_ne (tgt := 59) hx hb dMo_level_31 (by decide) (fun c31 => ?_) (fun c31 => ?_)
      · have c31 : ¬ 0 = 0 := fun q9 => c31 (show nI 0 = nI 0 from (nI_eq (a := 0) (b := 0) (by omega) (by omega)).mpr q9)
        exact absurd (by decide) c31
      · have c31 : 0 = 0 := (nI_eq (a := 0) (b := 0) (by omega) (by omega)).mp (show nI 0 = nI 0 from c31)
        refine lv_aload_n hx hb dMo_level_34 rfl (lv_at hl 0 rfl) ?_
        refine lv_iload_n hx hb dMo_level_35 rfl (lv_at hl 2 rfl) ?_
        refine lv_i2l (v := k9.toInt64) hx hb dMo_level_36 rfl ?_
        refine lv_lconst (v := lN 0) hx hb dMo_level_37 (by decide +kernel) ?_
        refine lv_ldc2 (v := 3) hx hb hown (hts _ tw_803) dMo_level_38 ?_
        refine rw_l (y := lN 3) (by decide +kernel) ?_
        refine ct_i (va_runS (As := [.long k9.toInt64, .long (lN 0), .long (lN 3)]) (rest := [.ref (b 0)]) ⟨hx, hb, hml, hown, hts⟩ (kMo_in l dC dI k b I1 D _ k9.toInt64 (lN 0) (lN 3)) (va_cwS 3 hts (gw_S tw_734 tw_735 tw_9 tw_736) rfl rfl rfl (by decide +kernel) ⟨Nat.le_of_ble_eq_true rfl, Nat.le_of_ble_eq_true rfl⟩) ⟨ct_blind (ev := fun _ => True) (fun _ _ _ _ h => h), ct_now (ev := fun _ => True) (fun _ _ _ => trivial) hP hK hD⟩ rfl rfl hl.1 rfl (lv_room (Nat.le_of_ble_eq_true rfl)) dMo_level_41 ⟨Nat.le_of_ble_eq_true rfl, Nat.le_of_ble_eq_true rfl⟩) hD hS hA (fun r5 u5 H locs hw5 hP hD hS => ?_)
        by_cases g41 : lN 0 ≤ k9.toInt64 ∧ k9.toInt64 ≤ lN 3
        · rw [if_pos g41] at hw5
          subst hw5
          refine rw_i (y := nI 1) rfl ?_
          obtain ⟨q, q1, q2, rfl⟩ := in_ab (by decide) (by decide) g41
          refine lv_if_ne (tgt := 51) hx hb dMo_level_44 (by decide) (fun c44 => ?_) (fun c44 => ?_)
          · have c44 : ¬ 1 = 0 := fun q9 => c44 (show nI 1 = nI 0 from (nI_eq (a := 1) (b := 0) (by omega) (by omega)).mpr q9)
            refine lv_iconst (v := nI 0) hx hb dMo_level_51 (by decide +kernel) ?_
            refine lv_iconst (v := nI 2) hx hb dMo_level_52 (by decide +kernel) ?_
            refine ct_i (va_runV (As := [.int (nI 0), .int (nI 2)]) (rest := []) ⟨hx, hb, hml, hown, hts⟩ (kMo_fails0 l dC dI k b I1 D _ (nI 2) (by rw [eI1, ui_s])) (cwV 2 hts (gw_V tw_737 tw_739 sl_Mo_fails tw_9 tw_740) rfl rfl rfl (by decide +kernel) ⟨Nat.le_of_ble_eq_true rfl, Nat.le_of_ble_eq_true rfl⟩) ⟨ct_blind (ev := fun _ => True) (fun _ _ _ _ h => h), va_recv hK hP (ci := 8) (q0 := 0) rfl rfl, ct_now (ev := fun _ => True) (fun _ _ _ => trivial) hP hK hD⟩ rfl rfl hl.1 rfl (lv_room (Nat.le_of_ble_eq_true rfl)) dMo_level_53 ⟨Nat.le_of_ble_eq_true rfl, Nat.le_of_ble_eq_true rfl⟩) hD hS hA (fun r6 u6 H locs hw6 hP hD hS => ?_)
            subst hw6
            refine lv_if_eq (tgt := 63) hx hb dMo_level_56 (by decide) (fun c56 => ?_) (fun c56 => ?_)
            · have c56 : 0 = 0 := (nI_eq (a := 0) (b := 0) (by omega) (by omega)).mp (show nI 0 = nI 0 from c56)
              refine lv_aload_n hx hb dMo_level_63 rfl (lv_at hl 0 rfl) ?_
              refine lv_iload_n hx hb dMo_level_64 rfl (lv_at hl 1 rfl) ?_
              refine lv_iload_n hx hb dMo_level_65 rfl (lv_at hl 2 rfl) ?_
              refine ct_d (va_runV (As := [.int (nI j), .int (nI q)]) (rest := []) ⟨hx, hb, hml, hown, hts⟩ (kMo_levelOf l dC dI k b I1 D _ j q (by omega) (by omega) (fun i hi => hsm _ (by omega)) hc hsn) (cwV 2 hts (gw_V tw_804 tw_806 sl_Mo_levelOf tw_9 tw_807) rfl rfl rfl (by decide +kernel) ⟨Nat.le_of_ble_eq_true rfl, Nat.le_of_ble_eq_true rfl⟩) ⟨ct_blind (ev := fun _ => True) (fun _ _ _ _ h => h), va_recv hK hP (ci := 8) (q0 := 0) rfl rfl, ct_now (ev := fun _ => True) (fun _ _ _ => trivial) hP hK hD⟩ rfl rfl hl.1 rfl (lv_room (Nat.le_of_ble_eq_true rfl)) dMo_level_66 ⟨Nat.le_of_ble_eq_true rfl, Nat.le_of_ble_eq_true rfl⟩) hD hS hA (fun r7 u7 H locs hw7 hP hD hS => ?_)
              subst hw7
              exact ct_rd hx hb hr hlocks I1 (Or.inr ⟨j, hj, rfl, Or.inr ⟨q, q1, q2, rfl, by rw [eI1], rfl⟩⟩) hP hD hS (Nat.le_refl _) (Nat.le_refl _) dMo_level_69
            · have c56 : ¬ 0 = 0 := fun q9 => c56 (show nI 0 = nI 0 from (nI_eq (a := 0) (b := 0) (by omega) (by omega)).mpr q9)
              exact absurd (by decide) c56
          · have c44 : 1 = 0 := (nI_eq (a := 1) (b := 0) (by omega) (by omega)).mp (show nI 1 = nI 0 from c44)
            exact absurd c44 (by decide)
        · rw [if_neg g41] at hw5
          subst hw5
          refine rw_i (y := nI 0) rfl ?_
          refine lv_if_ne (tgt := 51) hx hb dMo_level_44 (by decide) (fun c44 => ?_) (fun c44 => ?_)
          · have c44 : ¬ 0 = 0 := fun q9 => c44 (show nI 0 = nI 0 from (nI_eq (a := 0) (b := 0) (by omega) (by omega)).mpr q9)
            exact absurd (by decide) c44
          · have c44 : 0 = 0 := (nI_eq (a := 0) (b := 0) (by omega) (by omega)).mp (show nI 0 = nI 0 from c44)
            refine lv_iconst (v := nI 1) hx hb dMo_level_47 (by decide +kernel) ?_
            refine lv_goto (tgt := 52) hx hb dMo_level_48 (by decide) ?_
            refine lv_iconst (v := nI 2) hx hb dMo_level_52 (by decide +kernel) ?_
            refine ct_i (va_runV (As := [.int (nI 1), .int (nI 2)]) (rest := []) ⟨hx, hb, hml, hown, hts⟩ (kMo_fails1 l dC dI k b I1 D _ 2 (by omega) (by omega) (by rw [eI1, ui_s])) (cwV 2 hts (gw_V tw_737 tw_739 sl_Mo_fails tw_9 tw_740) rfl rfl rfl (by decide +kernel) ⟨Nat.le_of_ble_eq_true rfl, Nat.le_of_ble_eq_true rfl⟩) ⟨ct_blind (ev := fun _ => True) (fun _ _ _ _ h => h), va_recv hK hP (ci := 8) (q0 := 0) rfl rfl, ct_now (ev := fun _ => True) (fun _ _ _ => trivial) hP hK hD⟩ rfl rfl hl.1 rfl (lv_room (Nat.le_of_ble_eq_true rfl)) dMo_level_53 ⟨Nat.le_of_ble_eq_true rfl, Nat.le_of_ble_eq_true rfl⟩) hD hS hA (fun r8 u8 H locs hw8 hP hD hS => ?_)
            obtain ⟨r8e, eu8⟩ := hw8
            subst r8e
            refine lv_if_eq (tgt := 63) hx hb dMo_level_56 (by decide) (fun c56 => ?_) (fun c56 => ?_)
            · have c56 : 1 = 0 := (nI_eq (a := 1) (b := 0) (by omega) (by omega)).mp (show nI 1 = nI 0 from c56)
              exact absurd c56 (by decide)
            · have c56 : ¬ 1 = 0 := fun q9 => c56 (show nI 1 = nI 0 from (nI_eq (a := 1) (b := 0) (by omega) (by omega)).mpr q9)
              refine lv_dconst0 hx hb dMo_level_59 ?_
              refine rw_d (y := 0) rfl ?_
              refine lv_goto (tgt := 69) hx hb dMo_level_60 (by decide) ?_
              exact ct_rd hx hb hr hlocks u8 (Or.inr ⟨j, hj, rfl, Or.inl ⟨fun q => g41 (in_ba (by decide) (by decide) q), by rw [eu8, eI1]⟩⟩) hP hD hS (Nat.le_refl _) (Nat.le_refl _) dMo_level_69
    · have c19 : 1 = 0 := (nI_eq (a := 1) (b := 0) (by omega) (by omega)).mp (show nI 1 = nI 0 from c19)
      exact absurd c19 (by decide)
  · rw [if_neg g16] at hw3
    subst hw3
    refine rw_i (y := nI 0) rfl ?_
    refine lv_if_ne (tgt := 26) hx hb dMo_level_19 (by decide) (fun c19 => ?_) (fun c19 => ?_)
    · have c19 : ¬ 0 = 0 := fun q9 => c19 (show nI 0 = nI 0 from (nI_eq (a := 0) (b := 0) (by omega) (by omega)).mpr q9)
      exact absurd (by decide) c19
    · have c19 : 0 = 0 := (nI_eq (a := 0) (b := 0) (by omega) (by omega)).mp (show nI 0 = nI 0 from c19)
      refine lv_iconst (v := nI 1) hx hb dMo_level_22 (by decide +kernel) ?_
      refine lv_goto (tgt := 27) hx hb dMo_level_23 (by decide) ?_
      refine lv_iconst (v := nI 1) hx hb dMo_level_27 (by decide +kernel) ?_
      refine ct_i (va_runV (As := [.int (nI 1), .int (nI 1)]) (rest := []) ⟨hx, hb, hml, hown, hts⟩ (kMo_fails1 l dC dI k b I1 D _ 1 (by omega) (by omega) (by rw [eI1, ui_s])) (cwV 2 hts (gw_V tw_737 tw_739 sl_Mo_fails tw_9 tw_740) rfl rfl rfl (by decide +kernel) ⟨Nat.le_of_ble_eq_true rfl, Nat.le_of_ble_eq_true rfl⟩) ⟨ct_blind (ev := fun _ => True) (fun _ _ _ _ h => h), va_recv hK hP (ci := 8) (q0 := 0) rfl rfl, ct_now (ev := fun _ => True) (fun _ _ _ => trivial) hP hK hD⟩ rfl rfl hl.1 rfl (lv_room (Nat.le_of_ble_eq_true rfl)) dMo_level_28 ⟨Nat.le_of_ble_eq_true rfl, Nat.le_of_ble_eq_true rfl⟩) hD hS hA (fun r9 u9 H locs hw9 hP hD hS => ?_)
      obtain ⟨r9e, eu9⟩ := hw9
      subst r9e
      refine lv_if_ne (tgt := 59) hx hb dMo_level_31 (by decide) (fun c31 => ?_) (fun c31 => ?_)
      · have c31 : ¬ 1 = 0 := fun q9 => c31 (show nI 1 = nI 0 from (nI_eq (a := 1) (b := 0) (by omega) (by omega)).mpr q9)
        refine lv_dconst0 hx hb dMo_level_59 ?_
        refine rw_d (y := 0) rfl ?_
        refine lv_goto (tgt := 69) hx hb dMo_level_60 (by decide) ?_
        exact ct_rd hx hb hr hlocks u9 (Or.inl ⟨fun q => g16 (in_n0 (Nat.le_trans (nf_le hn) (by decide)) q), by rw [eu9, eI1]⟩) hP hD hS (Nat.le_refl _) (Nat.le_refl _) dMo_level_69
      · have c31 : 1 = 0 := (nI_eq (a := 1) (b := 0) (by omega) (by omega)).mp (show nI 1 = nI 0 from c31)
        exact absurd c31 (by decide)
