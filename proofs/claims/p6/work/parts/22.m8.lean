set_option maxHeartbeats 4000000 in
set_option maxRecDepth 100000 in
theorem kMo_word (l : Launch) (dC : Nat → ClassId) (dI : Nat → Nat → Nat) (k : Nat → ClassId) (b : Nat → Nat) (I : Nat → Nat → Int32) (D : Nat → Nat → UInt64) (sz : Nat) (i wh : Int32) (nw : Nat) (hn : nw ≤ 20) (h6 : I 0 6 = nI nw) (hr0 : I 0 4 ≠ 0) : Met l yMo_word wMo_word ({ frames := 1, cells := 0, slots := 0, locals := 25 }) (va_Pc [.ref (b 0), .int i, .int wh] (ct_pre (dC, dI) (mo_ty k) (fun _ => True) (wm k b I D) sz)) (va_Qi (fun r (u : Nat → Nat → Int32) => ((¬ ∃ j, j < nw ∧ i = nI j) ∧ u = ui (ui I 0 0 (nI 0)) 0 0 (nI 1)) ∨ (∃ j, j < nw ∧ i = nI j ∧ (((¬ ∃ q, 0 ≤ q ∧ q ≤ 5 ∧ wh = nI q) ∧ u = ui (ui I 0 0 (nI 0)) 0 0 (nI 2)) ∨ (∃ q, 0 ≤ q ∧ q ≤ 5 ∧ wh = nI q ∧ u = ui I 0 0 (nI 0) ∧ r = mo_wd I j q)))) (fun u t => ct_at (dC, dI) (va_A (wm k b I D) sz) ((fun u => wm k b u D) u) t) (va_A (wm k b I D) sz)) 0 0 (va_A (wm k b I D) sz) := by
  refine Met.ofW (cc := cMo_word) (maxL := 3) (ret := (some .int)) (by decide) rfl ?_
  intro p e s m args below meth c s₁ B hml hv
  obtain ⟨rfl, hsz, hP, hK, hD0, hE⟩ := hv
  have hx := B.exec
  have hb := B.bytes
  have hr := B.returns
  have hts : ∀ w ∈ W0, w.before [.ref (b 0), .int i, .int wh].toArray s = true := fun w h => atoms_spec (ws := wMo_word) B.pre w (List.mem_cons_of_mem _ h)
  have hown : s.vm.findClass RMo = some m.cls := findClass_of_methodNamed B.named
  have hlocks := B.notSynchronized
  subst hsz
  have hD := hD0.self (sz := s.heap.size)
  generalize hAe : va_A (wm k b I D) s.heap.size = A at hD ⊢
  have hA : ∀ q : Nat, s.heap.size ≤ q → A q := fun q h => by rw [← hAe]; exact Or.inr h
  have hS : va_S A s.heap s.heap [] := va_S.rf
  have hl := lv_entry ([.ref (b 0), .int i, .int wh]) (n := 3) (Nat.le_of_ble_eq_true rfl)
  rw [lg_entry_eq]
  generalize (lg_sl ([.ref (b 0), .int i, .int wh]) ++ List.replicate (3 - (lg_sl ([.ref (b 0), .int i, .int wh])).length) Slot.unset).toArray = ls at hl ⊢
  have hl : lv_has ls 3 [(0, .ref (b 0)), (1, .int i), (2, .int wh)] := hl
  refine lv_aload_n hx hb dMo_word_0 rfl (lv_at hl 0 rfl) ?_
  refine lv_iconst (v := nI 0) hx hb dMo_word_1 (by decide +kernel) ?_
  refine va_put (D := (dC, dI)) (ci := 8) (fs := mo_f b I D) (v := .int (nI 0)) (ty := .int) (C := RMo) (T := TMo) (N := 27) hx hb hts inMo tyMo tyMo_ok nmMo hown hK hP hD hS 0 rfl rfl 0 (by decide) (hts _ tw_647) (fun _ h9 => h9) rfl (by decide +kernel) rfl rfl (Nat.le_of_ble_eq_true rfl) dMo_word_2 (fun H locs hP hD hS => ?_)
  rw [wm_p0] at hP hD
  obtain ⟨I1, eI1⟩ : ∃ z, z = ui I 0 0 (nI 0) := ⟨_, rfl⟩
  rw [← eI1] at hP hD
  refine lv_aload_n hx hb dMo_word_5 rfl (lv_at hl 0 rfl) ?_
  refine lv_iload_n hx hb dMo_word_6 rfl (lv_at hl 1 rfl) ?_
  refine lv_i2l (v := i.toInt64) hx hb dMo_word_7 rfl ?_
  refine lv_lconst (v := lN 0) hx hb dMo_word_8 (by decide +kernel) ?_
  refine lv_aload_n hx hb dMo_word_9 rfl (lv_at hl 0 rfl) ?_
  refine va_get (D := (dC, dI)) (ci := 8) (v := .int (I1 0 6)) (C := RMo) (T := TMo) (N := 27) hx hb hts inMo hown hK hP 0 rfl rfl 6 (by decide) (hts _ tw_653) (fun _ h9 => h9) rfl dMo_word_10 ?_
  refine rw_i (y := I 0 6) (by rw [eI1, ui_n _ _ _ (by decide)]) ?_
  refine rw_i (y := nI nw) h6 ?_
  refine lv_iconst (v := nI 1) hx hb dMo_word_13 (by decide +kernel) ?_
  refine lv_isub hx hb dMo_word_14 ?_
  refine lv_i2l (v := ((nI nw) - (nI 1)).toInt64) hx hb dMo_word_15 rfl ?_
  refine ct_i (va_runS (As := [.long i.toInt64, .long (lN 0), .long (((nI nw) - (nI 1)).toInt64)]) (rest := [.ref (b 0)]) ⟨hx, hb, hml, hown, hts⟩ (kMo_in l dC dI k b I1 D _ i.toInt64 (lN 0) (((nI nw) - (nI 1)).toInt64)) (va_cwS 3 hts (gw_S tw_734 tw_735 tw_9 tw_736) rfl rfl rfl (by decide +kernel) ⟨Nat.le_of_ble_eq_true rfl, Nat.le_of_ble_eq_true rfl⟩) ⟨ct_blind (ev := fun _ => True) (fun _ _ _ _ h => h), ct_now (ev := fun _ => True) (fun _ _ _ => trivial) hP hK hD⟩ rfl rfl hl.1 rfl (lv_room (Nat.le_of_ble_eq_true rfl)) dMo_word_16 ⟨Nat.le_of_ble_eq_true rfl, Nat.le_of_ble_eq_true rfl⟩) hD hS hA (fun r2 u2 H locs hw2 hP hD hS => ?_)
  by_cases g16 : lN 0 ≤ i.toInt64 ∧ i.toInt64 ≤ ((nI nw) - (nI 1)).toInt64
  · rw [if_pos g16] at hw2
    subst hw2
    refine rw_i (y := nI 1) rfl ?_
    obtain ⟨j, hj, rfl⟩ := in_0n (Nat.le_trans hn (by decide)) g16
    refine lv_if_ne (tgt := 26) hx hb dMo_word_19 (by decide) (fun c19 => ?_) (fun c19 => ?_)
    · have c19 : ¬ 1 = 0 := fun q9 => c19 (show nI 1 = nI 0 from (nI_eq (a := 1) (b := 0) (by omega) (by omega)).mpr q9)
      refine lv_iconst (v := nI 0) hx hb dMo_word_26 (by decide +kernel) ?_
      refine lv_iconst (v := nI 1) hx hb dMo_word_27 (by decide +kernel) ?_
      refine ct_i (va_runV (As := [.int (nI 0), .int (nI 1)]) (rest := []) ⟨hx, hb, hml, hown, hts⟩ (kMo_fails0 l dC dI k b I1 D _ (nI 1) (by rw [eI1, ui_s])) (cwV 2 hts (gw_V tw_737 tw_739 sl_Mo_fails tw_9 tw_740) rfl rfl rfl (by decide +kernel) ⟨Nat.le_of_ble_eq_true rfl, Nat.le_of_ble_eq_true rfl⟩) ⟨ct_blind (ev := fun _ => True) (fun _ _ _ _ h => h), va_recv hK hP (ci := 8) (q0 := 0) rfl rfl, ct_now (ev := fun _ => True) (fun _ _ _ => trivial) hP hK hD⟩ rfl rfl hl.1 rfl (lv_room (Nat.le_of_ble_eq_true rfl)) dMo_word_28 ⟨Nat.le_of_ble_eq_true rfl, Nat.le_of_ble_eq_true rfl⟩) hD hS hA (fun r3 u3 H locs hw3 hP hD hS => ?_)
      subst hw3
      refine lv_if_ne (tgt := 59) hx hb dMo_word_31 (by decide) (fun c31 => ?_) (fun c31 => ?_)
      · have c31 : ¬ 0 = 0 := fun q9 => c31 (show nI 0 = nI 0 from (nI_eq (a := 0) (b := 0) (by omega) (by omega)).mpr q9)
        exact absurd (by decide) c31
      · have c31 : 0 = 0 := (nI_eq (a := 0) (b := 0) (by omega) (by omega)).mp (show nI 0 = nI 0 from c31)
        refine lv_aload_n hx hb dMo_word_34 rfl (lv_at hl 0 rfl) ?_
        refine lv_iload_n hx hb dMo_word_35 rfl (lv_at hl 2 rfl) ?_
        refine lv_i2l (v := wh.toInt64) hx hb dMo_word_36 rfl ?_
        refine lv_lconst (v := lN 0) hx hb dMo_word_37 (by decide +kernel) ?_
        refine lv_ldc2 (v := 5) hx hb hown (hts _ tw_862) dMo_word_38 ?_
        refine rw_l (y := lN 5) (by decide +kernel) ?_
        refine ct_i (va_runS (As := [.long wh.toInt64, .long (lN 0), .long (lN 5)]) (rest := [.ref (b 0)]) ⟨hx, hb, hml, hown, hts⟩ (kMo_in l dC dI k b I1 D _ wh.toInt64 (lN 0) (lN 5)) (va_cwS 3 hts (gw_S tw_734 tw_735 tw_9 tw_736) rfl rfl rfl (by decide +kernel) ⟨Nat.le_of_ble_eq_true rfl, Nat.le_of_ble_eq_true rfl⟩) ⟨ct_blind (ev := fun _ => True) (fun _ _ _ _ h => h), ct_now (ev := fun _ => True) (fun _ _ _ => trivial) hP hK hD⟩ rfl rfl hl.1 rfl (lv_room (Nat.le_of_ble_eq_true rfl)) dMo_word_41 ⟨Nat.le_of_ble_eq_true rfl, Nat.le_of_ble_eq_true rfl⟩) hD hS hA (fun r4 u4 H locs hw4 hP hD hS => ?_)
        by_cases g41 : lN 0 ≤ wh.toInt64 ∧ wh.toInt64 ≤ lN 5
        · rw [if_pos g41] at hw4
          subst hw4
          refine rw_i (y := nI 1) rfl ?_
          obtain ⟨q, q1, q2, rfl⟩ := in_ab (by decide) (by decide) g41
          refine lv_if_ne (tgt := 51) hx hb dMo_word_44 (by decide) (fun c44 => ?_) (fun c44 => ?_)
          · have c44 : ¬ 1 = 0 := fun q9 => c44 (show nI 1 = nI 0 from (nI_eq (a := 1) (b := 0) (by omega) (by omega)).mpr q9)
            refine lv_iconst (v := nI 0) hx hb dMo_word_51 (by decide +kernel) ?_
            refine lv_iconst (v := nI 2) hx hb dMo_word_52 (by decide +kernel) ?_
            refine ct_i (va_runV (As := [.int (nI 0), .int (nI 2)]) (rest := []) ⟨hx, hb, hml, hown, hts⟩ (kMo_fails0 l dC dI k b I1 D _ (nI 2) (by rw [eI1, ui_s])) (cwV 2 hts (gw_V tw_737 tw_739 sl_Mo_fails tw_9 tw_740) rfl rfl rfl (by decide +kernel) ⟨Nat.le_of_ble_eq_true rfl, Nat.le_of_ble_eq_true rfl⟩) ⟨ct_blind (ev := fun _ => True) (fun _ _ _ _ h => h), va_recv hK hP (ci := 8) (q0 := 0) rfl rfl, ct_now (ev := fun _ => True) (fun _ _ _ => trivial) hP hK hD⟩ rfl rfl hl.1 rfl (lv_room (Nat.le_of_ble_eq_true rfl)) dMo_word_53 ⟨Nat.le_of_ble_eq_true rfl, Nat.le_of_ble_eq_true rfl⟩) hD hS hA (fun r5 u5 H locs hw5 hP hD hS => ?_)
            subst hw5
            refine lv_if_eq (tgt := 61) hx hb dMo_word_56 (by decide) (fun c56 => ?_) (fun c56 => ?_)
            · have c56 : 0 = 0 := (nI_eq (a := 0) (b := 0) (by omega) (by omega)).mp (show nI 0 = nI 0 from c56)
              rcases (show q = 0 ∨ q = 1 ∨ q = 2 ∨ q = 3 ∨ q = 4 ∨ q = 5 by omega) with rfl | rfl | rfl | rfl | rfl | rfl
              · refine lv_iload_n hx hb dMo_word_61 rfl (lv_at hl 2 rfl) ?_
                refine lv_tableIn (off := 34) (tgt := 96) hx hb dMo_word_62 (by decide +kernel) (by decide +kernel) (by decide +kernel) (by decide) ?_
                refine lv_aload_n hx hb dMo_word_96 rfl (lv_at hl 0 rfl) ?_
                refine va_get (D := (dC, dI)) (ci := 8) (v := .ref (b 4)) (C := RMo) (T := TMo) (N := 27) hx hb hts inMo hown hK hP 0 rfl rfl 15 (by decide) (hts _ tw_662) (fun _ h9 => h9) rfl dMo_word_97 ?_
                refine lv_iload_n hx hb dMo_word_100 rfl (lv_at hl 1 rfl) ?_
                refine rw_ald_i hx hb hK hP 4 0 rfl rfl (by omega) (by decide) dMo_word_101 ?_
                refine rw_i (y := I 4 j) (by rw [eI1, ui_o _ _ _ (by decide)]) ?_
                exact ct_ri hx hb hr hlocks I1 (Or.inr ⟨j, hj, rfl, Or.inr ⟨_, q1, q2, rfl, by rw [eI1], rfl⟩⟩) hP hD hS (Nat.le_refl _) (Nat.le_refl _) dMo_word_102
              · refine lv_iload_n hx hb dMo_word_61 rfl (lv_at hl 2 rfl) ?_
                refine lv_tableIn (off := 41) (tgt := 103) hx hb dMo_word_62 (by decide +kernel) (by decide +kernel) (by decide +kernel) (by decide) ?_
                refine lv_aload_n hx hb dMo_word_103 rfl (lv_at hl 0 rfl) ?_
                refine va_get (D := (dC, dI)) (ci := 8) (v := .ref (b 5)) (C := RMo) (T := TMo) (N := 27) hx hb hts inMo hown hK hP 0 rfl rfl 16 (by decide) (hts _ tw_663) (fun _ h9 => h9) rfl dMo_word_104 ?_
                refine lv_iload_n hx hb dMo_word_107 rfl (lv_at hl 1 rfl) ?_
                refine rw_ald_i hx hb hK hP 5 0 rfl rfl (by omega) (by decide) dMo_word_108 ?_
                refine rw_i (y := I 5 j) (by rw [eI1, ui_o _ _ _ (by decide)]) ?_
                exact ct_ri hx hb hr hlocks I1 (Or.inr ⟨j, hj, rfl, Or.inr ⟨_, q1, q2, rfl, by rw [eI1], rfl⟩⟩) hP hD hS (Nat.le_refl _) (Nat.le_refl _) dMo_word_109
              · refine lv_iload_n hx hb dMo_word_61 rfl (lv_at hl 2 rfl) ?_
                refine lv_tableIn (off := 48) (tgt := 110) hx hb dMo_word_62 (by decide +kernel) (by decide +kernel) (by decide +kernel) (by decide) ?_
                refine lv_aload_n hx hb dMo_word_110 rfl (lv_at hl 0 rfl) ?_
                refine va_get (D := (dC, dI)) (ci := 8) (v := .ref (b 6)) (C := RMo) (T := TMo) (N := 27) hx hb hts inMo hown hK hP 0 rfl rfl 17 (by decide) (hts _ tw_664) (fun _ h9 => h9) rfl dMo_word_111 ?_
                refine lv_iload_n hx hb dMo_word_114 rfl (lv_at hl 1 rfl) ?_
                refine rw_ald_i hx hb hK hP 6 0 rfl rfl (by omega) (by decide) dMo_word_115 ?_
                refine rw_i (y := I 6 j) (by rw [eI1, ui_o _ _ _ (by decide)]) ?_
                exact ct_ri hx hb hr hlocks I1 (Or.inr ⟨j, hj, rfl, Or.inr ⟨_, q1, q2, rfl, by rw [eI1], rfl⟩⟩) hP hD hS (Nat.le_refl _) (Nat.le_refl _) dMo_word_116
              · refine lv_iload_n hx hb dMo_word_61 rfl (lv_at hl 2 rfl) ?_
                refine lv_tableIn (off := 55) (tgt := 117) hx hb dMo_word_62 (by decide +kernel) (by decide +kernel) (by decide +kernel) (by decide) ?_
                refine lv_aload_n hx hb dMo_word_117 rfl (lv_at hl 0 rfl) ?_
                refine va_get (D := (dC, dI)) (ci := 8) (v := .ref (b 7)) (C := RMo) (T := TMo) (N := 27) hx hb hts inMo hown hK hP 0 rfl rfl 18 (by decide) (hts _ tw_665) (fun _ h9 => h9) rfl dMo_word_118 ?_
                refine lv_iload_n hx hb dMo_word_121 rfl (lv_at hl 1 rfl) ?_
                refine rw_ald_i hx hb hK hP 7 0 rfl rfl (by omega) (by decide) dMo_word_122 ?_
                refine rw_i (y := I 7 j) (by rw [eI1, ui_o _ _ _ (by decide)]) ?_
                exact ct_ri hx hb hr hlocks I1 (Or.inr ⟨j, hj, rfl, Or.inr ⟨_, q1, q2, rfl, by rw [eI1], rfl⟩⟩) hP hD hS (Nat.le_refl _) (Nat.le_refl _) dMo_word_123
              · refine lv_iload_n hx hb dMo_word_61 rfl (lv_at hl 2 rfl) ?_
                refine lv_tableIn (off := 62) (tgt := 124) hx hb dMo_word_62 (by decide +kernel) (by decide +kernel) (by decide +kernel) (by decide) ?_
                refine lv_bipush (v := nI 16) hx hb dMo_word_124 (by decide +kernel) ?_
                refine lv_aload_n hx hb dMo_word_126 rfl (lv_at hl 0 rfl) ?_
                refine va_get (D := (dC, dI)) (ci := 8) (v := .ref (b 5)) (C := RMo) (T := TMo) (N := 27) hx hb hts inMo hown hK hP 0 rfl rfl 16 (by decide) (hts _ tw_663) (fun _ h9 => h9) rfl dMo_word_127 ?_
                refine lv_iload_n hx hb dMo_word_130 rfl (lv_at hl 1 rfl) ?_
                refine rw_ald_i hx hb hK hP 5 0 rfl rfl (by omega) (by decide) dMo_word_131 ?_
                refine rw_i (y := I 5 j) (by rw [eI1, ui_o _ _ _ (by decide)]) ?_
                refine lv_imul hx hb dMo_word_132 ?_
                refine lv_sipush (v := nI 1000) hx hb dMo_word_133 (by decide +kernel) ?_
                refine lv_imul hx hb dMo_word_136 ?_
                refine lv_aload_n hx hb dMo_word_137 rfl (lv_at hl 0 rfl) ?_
                refine va_get (D := (dC, dI)) (ci := 8) (v := .int (I1 0 4)) (C := RMo) (T := TMo) (N := 27) hx hb hts inMo hown hK hP 0 rfl rfl 4 (by decide) (hts _ tw_651) (fun _ h9 => h9) rfl dMo_word_138 ?_
                refine rw_i (y := I 0 4) (by rw [eI1, ui_n _ _ _ (by decide)]) ?_
                refine lv_idiv hx hb dMo_word_141 (fun z => hr0 z) ?_
                exact ct_ri hx hb hr hlocks I1 (Or.inr ⟨j, hj, rfl, Or.inr ⟨_, q1, q2, rfl, by rw [eI1], rfl⟩⟩) hP hD hS (Nat.le_refl _) (Nat.le_refl _) dMo_word_142
              · refine lv_iload_n hx hb dMo_word_61 rfl (lv_at hl 2 rfl) ?_
                refine lv_tableOut (tgt := 143) hx hb dMo_word_62 (by decide +kernel) (by decide) ?_
                refine lv_bipush (v := nI 16) hx hb dMo_word_143 (by decide +kernel) ?_
                refine lv_aload_n hx hb dMo_word_145 rfl (lv_at hl 0 rfl) ?_
                refine va_get (D := (dC, dI)) (ci := 8) (v := .ref (b 5)) (C := RMo) (T := TMo) (N := 27) hx hb hts inMo hown hK hP 0 rfl rfl 16 (by decide) (hts _ tw_663) (fun _ h9 => h9) rfl dMo_word_146 ?_
                refine lv_iload_n hx hb dMo_word_149 rfl (lv_at hl 1 rfl) ?_
                refine rw_ald_i hx hb hK hP 5 0 rfl rfl (by omega) (by decide) dMo_word_150 ?_
                refine rw_i (y := I 5 j) (by rw [eI1, ui_o _ _ _ (by decide)]) ?_
                refine lv_aload_n hx hb dMo_word_151 rfl (lv_at hl 0 rfl) ?_
                refine va_get (D := (dC, dI)) (ci := 8) (v := .ref (b 6)) (C := RMo) (T := TMo) (N := 27) hx hb hts inMo hown hK hP 0 rfl rfl 17 (by decide) (hts _ tw_664) (fun _ h9 => h9) rfl dMo_word_152 ?_
                refine lv_iload_n hx hb dMo_word_155 rfl (lv_at hl 1 rfl) ?_
                refine rw_ald_i hx hb hK hP 6 0 rfl rfl (by omega) (by decide) dMo_word_156 ?_
                refine rw_i (y := I 6 j) (by rw [eI1, ui_o _ _ _ (by decide)]) ?_
                refine lv_iadd hx hb dMo_word_157 ?_
                refine lv_imul hx hb dMo_word_158 ?_
                refine lv_bipush (v := nI 16) hx hb dMo_word_159 (by decide +kernel) ?_
                refine lv_iadd hx hb dMo_word_161 ?_
                refine lv_sipush (v := nI 1000) hx hb dMo_word_162 (by decide +kernel) ?_
                refine lv_imul hx hb dMo_word_165 ?_
                refine lv_aload_n hx hb dMo_word_166 rfl (lv_at hl 0 rfl) ?_
                refine va_get (D := (dC, dI)) (ci := 8) (v := .int (I1 0 4)) (C := RMo) (T := TMo) (N := 27) hx hb hts inMo hown hK hP 0 rfl rfl 4 (by decide) (hts _ tw_651) (fun _ h9 => h9) rfl dMo_word_167 ?_
                refine rw_i (y := I 0 4) (by rw [eI1, ui_n _ _ _ (by decide)]) ?_
                refine lv_idiv hx hb dMo_word_170 (fun z => hr0 z) ?_
                exact ct_ri hx hb hr hlocks I1 (Or.inr ⟨j, hj, rfl, Or.inr ⟨_, q1, q2, rfl, by rw [eI1], rfl⟩⟩) hP hD hS (Nat.le_refl _) (Nat.le_refl _) dMo_word_171
            · have c56 : ¬ 0 = 0 := fun q9 => c56 (show nI 0 = nI 0 from (nI_eq (a := 0) (b := 0) (by omega) (by omega)).mpr q9)
              exact absurd (by decide) c56
          · have c44 : 1 = 0 := (nI_eq (a := 1) (b := 0) (by omega) (by omega)).mp (show nI 1 = nI 0 from c44)
            exact absurd c44 (by decide)
        · rw [if_neg g41] at hw4
          subst hw4
          refine rw_i (y := nI 0) rfl ?_
          refine lv_if_ne (tgt := 51) hx hb dMo_word_44 (by decide) (fun c44 => ?_) (fun c44 => ?_)
          · have c44 : ¬ 0 = 0 := fun q9 => c44 (show nI 0 = nI 0 from (nI_eq (a := 0) (b := 0) (by omega) (by omega)).mpr q9)
            exact absurd (by decide) c44
          · have c44 : 0 = 0 := (nI_eq (a := 0) (b := 0) (by omega) (by omega)).mp (show nI 0 = nI 0 from c44)
            refine lv_iconst (v := nI 1) hx hb dMo_word_47 (by decide +kernel) ?_
            refine lv_goto (tgt := 52) hx hb dMo_word_48 (by decide) ?_
            refine lv_iconst (v := nI 2) hx hb dMo_word_52 (by decide +kernel) ?_
            refine ct_i (va_runV (As := [.int (nI 1), .int (nI 2)]) (rest := []) ⟨hx, hb, hml, hown, hts⟩ (kMo_fails1 l dC dI k b I1 D _ 2 (by omega) (by omega) (by rw [eI1, ui_s])) (cwV 2 hts (gw_V tw_737 tw_739 sl_Mo_fails tw_9 tw_740) rfl rfl rfl (by decide +kernel) ⟨Nat.le_of_ble_eq_true rfl, Nat.le_of_ble_eq_true rfl⟩) ⟨ct_blind (ev := fun _ => True) (fun _ _ _ _ h => h), va_recv hK hP (ci := 8) (q0 := 0) rfl rfl, ct_now (ev := fun _ => True) (fun _ _ _ => trivial) hP hK hD⟩ rfl rfl hl.1 rfl (lv_room (Nat.le_of_ble_eq_true rfl)) dMo_word_53 ⟨Nat.le_of_ble_eq_true rfl, Nat.le_of_ble_eq_true rfl⟩) hD hS hA (fun r6 u6 H locs hw6 hP hD hS => ?_)
            obtain ⟨r6e, eu6⟩ := hw6
            subst r6e
            refine lv_if_eq (tgt := 61) hx hb dMo_word_56 (by decide) (fun c56 => ?_) (fun c56 => ?_)
            · have c56 : 1 = 0 := (nI_eq (a := 1) (b := 0) (by omega) (by omega)).mp (show nI 1 = nI 0 from c56)
              exact absurd c56 (by decide)
            · have c56 : ¬ 1 = 0 := fun q9 => c56 (show nI 1 = nI 0 from (nI_eq (a := 1) (b := 0) (by omega) (by omega)).mpr q9)
              refine lv_iconst (v := nI 0) hx hb dMo_word_59 (by decide +kernel) ?_
              exact ct_ri hx hb hr hlocks u6 (Or.inr ⟨j, hj, rfl, Or.inl ⟨fun q => g41 (in_ba (by decide) (by decide) q), by rw [eu6, eI1]⟩⟩) hP hD hS (Nat.le_refl _) (Nat.le_refl _) dMo_word_60
    · have c19 : 1 = 0 := (nI_eq (a := 1) (b := 0) (by omega) (by omega)).mp (show nI 1 = nI 0 from c19)
      exact absurd c19 (by decide)
  · rw [if_neg g16] at hw2
    subst hw2
    refine rw_i (y := nI 0) rfl ?_
    refine lv_if_ne (tgt := 26) hx hb dMo_word_19 (by decide) (fun c19 => ?_) (fun c19 => ?_)
    · have c19 : ¬ 0 = 0 := fun q9 => c19 (show nI 0 = nI 0 from (nI_eq (a := 0) (b := 0) (by omega) (by omega)).mpr q9)
      exact absurd (by decide) c19
    · have c19 : 0 = 0 := (nI_eq (a := 0) (b := 0) (by omega) (by omega)).mp (show nI 0 = nI 0 from c19)
      refine lv_iconst (v := nI 1) hx hb dMo_word_22 (by decide +kernel) ?_
      refine lv_goto (tgt := 27) hx hb dMo_word_23 (by decide) ?_
      refine lv_iconst (v := nI 1) hx hb dMo_word_27 (by decide +kernel) ?_
      refine ct_i (va_runV (As := [.int (nI 1), .int (nI 1)]) (rest := []) ⟨hx, hb, hml, hown, hts⟩ (kMo_fails1 l dC dI k b I1 D _ 1 (by omega) (by omega) (by rw [eI1, ui_s])) (cwV 2 hts (gw_V tw_737 tw_739 sl_Mo_fails tw_9 tw_740) rfl rfl rfl (by decide +kernel) ⟨Nat.le_of_ble_eq_true rfl, Nat.le_of_ble_eq_true rfl⟩) ⟨ct_blind (ev := fun _ => True) (fun _ _ _ _ h => h), va_recv hK hP (ci := 8) (q0 := 0) rfl rfl, ct_now (ev := fun _ => True) (fun _ _ _ => trivial) hP hK hD⟩ rfl rfl hl.1 rfl (lv_room (Nat.le_of_ble_eq_true rfl)) dMo_word_28 ⟨Nat.le_of_ble_eq_true rfl, Nat.le_of_ble_eq_true rfl⟩) hD hS hA (fun r7 u7 H locs hw7 hP hD hS => ?_)
      obtain ⟨r7e, eu7⟩ := hw7
      subst r7e
      refine lv_if_ne (tgt := 59) hx hb dMo_word_31 (by decide) (fun c31 => ?_) (fun c31 => ?_)
      · have c31 : ¬ 1 = 0 := fun q9 => c31 (show nI 1 = nI 0 from (nI_eq (a := 1) (b := 0) (by omega) (by omega)).mpr q9)
        refine lv_iconst (v := nI 0) hx hb dMo_word_59 (by decide +kernel) ?_
        exact ct_ri hx hb hr hlocks u7 (Or.inl ⟨fun q => g16 (in_n0 (Nat.le_trans hn (by decide)) q), by rw [eu7, eI1]⟩) hP hD hS (Nat.le_refl _) (Nat.le_refl _) dMo_word_60
      · have c31 : 1 = 0 := (nI_eq (a := 1) (b := 0) (by omega) (by omega)).mp (show nI 1 = nI 0 from c31)
        exact absurd c31 (by decide)
set_option maxHeartbeats 4000000 in
set_option maxRecDepth 100000 in
theorem kMo_count (l : Launch) (dC : Nat → ClassId) (dI : Nat → Nat → Nat) (k : Nat → ClassId) (b : Nat → Nat) (I : Nat → Nat → Int32) (D : Nat → Nat → UInt64) (sz : Nat) (wh : Int32) (ns : Nat) (hn : ns ≤ 320) (h3 : I 0 3 = nI ns) (hsm : ∀ i, i < ns → fb_ 1057 (D 1 i)) (hc : ∀ j, j < 32 → D 7 j = hd_C j) (hsn : ∀ j, j < 32 → D 8 j = hd_S j) : Met l yMo_count wMo_count ({ frames := 3, cells := 0, slots := 0, locals := 80 }) (va_Pc [.ref (b 0), .int wh] (ct_pre (dC, dI) (mo_ty k) (fun _ => True) (wm k b I D) sz)) (va_Qi (fun r (u : Nat → Nat → Int32) => ((¬ ∃ q, 0 ≤ q ∧ q ≤ 6 ∧ wh = nI q) ∧ u = ui (ui I 0 0 (nI 0)) 0 0 (nI 1)) ∨ (∃ q, 0 ≤ q ∧ q ≤ 6 ∧ wh = nI q ∧ u = ui I 0 0 (nI 0) ∧ r = mo_ct I (D 1) (D 0 0) ns q)) (fun u t => ct_at (dC, dI) (va_A (wm k b I D) sz) ((fun u => wm k b u D) u) t) (va_A (wm k b I D) sz)) 0 0 (va_A (wm k b I D) sz) := by
  refine Met.ofW (cc := cMo_count) (maxL := 4) (ret := (some .int)) (by decide) rfl ?_
  intro p e s m args below meth c s₁ B hml hv
  obtain ⟨rfl, hsz, hP, hK, hD0, hE⟩ := hv
  have hx := B.exec
  have hb := B.bytes
  have hr := B.returns
  have hts : ∀ w ∈ W0, w.before [.ref (b 0), .int wh].toArray s = true := fun w h => atoms_spec (ws := wMo_count) B.pre w (List.mem_cons_of_mem _ h)
  have hown : s.vm.findClass RMo = some m.cls := findClass_of_methodNamed B.named
  have hlocks := B.notSynchronized
  subst hsz
  have hD := hD0.self (sz := s.heap.size)
  generalize hAe : va_A (wm k b I D) s.heap.size = A at hD ⊢
  have hA : ∀ q : Nat, s.heap.size ≤ q → A q := fun q h => by rw [← hAe]; exact Or.inr h
  have hS : va_S A s.heap s.heap [] := va_S.rf
  have hl := lv_entry ([.ref (b 0), .int wh]) (n := 4) (Nat.le_of_ble_eq_true rfl)
  rw [lg_entry_eq]
  generalize (lg_sl ([.ref (b 0), .int wh]) ++ List.replicate (4 - (lg_sl ([.ref (b 0), .int wh])).length) Slot.unset).toArray = ls at hl ⊢
  have hl : lv_has ls 4 [(0, .ref (b 0)), (1, .int wh)] := hl
  refine lp_q (fun Q9 hQ9 => ?_)
  refine lv_aload_n hx hb dMo_count_0 rfl (lv_at hl 0 rfl) ?_
  refine lv_iconst (v := nI 0) hx hb dMo_count_1 (by decide +kernel) ?_
  refine va_put (D := (dC, dI)) (ci := 8) (fs := mo_f b I D) (v := .int (nI 0)) (ty := .int) (C := RMo) (T := TMo) (N := 27) hx hb hts inMo tyMo tyMo_ok nmMo hown hK hP hD hS 0 rfl rfl 0 (by decide) (hts _ tw_647) (fun _ h9 => h9) rfl (by decide +kernel) rfl rfl (Nat.le_of_ble_eq_true rfl) dMo_count_2 (fun H locs hP hD hS => ?_)
  rw [wm_p0] at hP hD
  obtain ⟨I1, eI1⟩ : ∃ z, z = ui I 0 0 (nI 0) := ⟨_, rfl⟩
  rw [← eI1] at hP hD
  refine lv_aload_n hx hb dMo_count_5 rfl (lv_at hl 0 rfl) ?_
  refine lv_iload_n hx hb dMo_count_6 rfl (lv_at hl 1 rfl) ?_
  refine lv_i2l (v := wh.toInt64) hx hb dMo_count_7 rfl ?_
  refine lv_lconst (v := lN 0) hx hb dMo_count_8 (by decide +kernel) ?_
  refine lv_ldc2 (v := 6) hx hb hown (hts _ tw_871) dMo_count_9 ?_
  refine rw_l (y := lN 6) (by decide +kernel) ?_
  refine ct_i (va_runS (As := [.long wh.toInt64, .long (lN 0), .long (lN 6)]) (rest := [.ref (b 0)]) ⟨hx, hb, hml, hown, hts⟩ (kMo_in l dC dI k b I1 D _ wh.toInt64 (lN 0) (lN 6)) (va_cwS 3 hts (gw_S tw_734 tw_735 tw_9 tw_736) rfl rfl rfl (by decide +kernel) ⟨Nat.le_of_ble_eq_true rfl, Nat.le_of_ble_eq_true rfl⟩) ⟨ct_blind (ev := fun _ => True) (fun _ _ _ _ h => h), ct_now (ev := fun _ => True) (fun _ _ _ => trivial) hP hK hD⟩ rfl rfl hl.1 rfl (lv_room (Nat.le_of_ble_eq_true rfl)) dMo_count_12 ⟨Nat.le_of_ble_eq_true rfl, Nat.le_of_ble_eq_true rfl⟩) hD hS hA (fun r2 u2 H locs hw2 hP hD hS => ?_)
  by_cases g12 : lN 0 ≤ wh.toInt64 ∧ wh.toInt64 ≤ lN 6
  · rw [if_pos g12] at hw2
    subst hw2
    refine rw_i (y := nI 1) rfl ?_
    obtain ⟨q, q1, q2, rfl⟩ := in_ab (by decide) (by decide) g12
    refine lv_if_ne (tgt := 22) hx hb dMo_count_15 (by decide) (fun c15 => ?_) (fun c15 => ?_)
    · have c15 : ¬ 1 = 0 := fun q9 => c15 (show nI 1 = nI 0 from (nI_eq (a := 1) (b := 0) (by omega) (by omega)).mpr q9)
      refine lv_iconst (v := nI 0) hx hb dMo_count_22 (by decide +kernel) ?_
      refine lv_iconst (v := nI 1) hx hb dMo_count_23 (by decide +kernel) ?_
      refine ct_i (va_runV (As := [.int (nI 0), .int (nI 1)]) (rest := []) ⟨hx, hb, hml, hown, hts⟩ (kMo_fails0 l dC dI k b I1 D _ (nI 1) (by rw [eI1, ui_s])) (cwV 2 hts (gw_V tw_737 tw_739 sl_Mo_fails tw_9 tw_740) rfl rfl rfl (by decide +kernel) ⟨Nat.le_of_ble_eq_true rfl, Nat.le_of_ble_eq_true rfl⟩) ⟨ct_blind (ev := fun _ => True) (fun _ _ _ _ h => h), va_recv hK hP (ci := 8) (q0 := 0) rfl rfl, ct_now (ev := fun _ => True) (fun _ _ _ => trivial) hP hK hD⟩ rfl rfl hl.1 rfl (lv_room (Nat.le_of_ble_eq_true rfl)) dMo_count_24 ⟨Nat.le_of_ble_eq_true rfl, Nat.le_of_ble_eq_true rfl⟩) hD hS hA (fun r3 u3 H locs hw3 hP hD hS => ?_)
      subst hw3
      refine lv_if_eq (tgt := 32) hx hb dMo_count_27 (by decide) (fun c27 => ?_) (fun c27 => ?_)
      · have c27 : 0 = 0 := (nI_eq (a := 0) (b := 0) (by omega) (by omega)).mp (show nI 0 = nI 0 from c27)
        have hnf := nf_le hn
        rcases (show q = 0 ∨ q = 1 ∨ q = 2 ∨ q = 3 ∨ q = 4 ∨ q = 5 ∨ q = 6 by omega) with rfl | rfl | rfl | rfl | rfl | rfl | rfl
        · refine lv_iconst (v := nI 0) hx hb dMo_count_32 (by decide +kernel) ?_
          refine lv_istore_n (lv' := [(2, .int (nI 0)), (0, .ref (b 0)), (1, .int (nI 0))]) hx hb dMo_count_33 rfl hl (by decide) rfl (fun ls hl => ?_)
          refine lv_iconst (v := nI 0) hx hb dMo_count_34 (by decide +kernel) ?_
          refine lv_istore_n (lv' := [(3, .int (nI 0)), (2, .int (nI 0)), (0, .ref (b 0)), (1, .int (nI 0))]) hx hb dMo_count_35 rfl hl (by decide) rfl (fun ls hl => ?_)
          refine lv_iload_n hx hb dMo_count_36 rfl (lv_at hl 0 rfl) ?_
          refine lv_aload_n hx hb dMo_count_37 rfl (lv_at hl 2 rfl) ?_
          refine ct_i (va_runV (As := []) (rest := [.int (nI 0)]) ⟨hx, hb, hml, hown, hts⟩ (kMo_frames l dC dI k b I1 D _ ns hn (by rw [eI1, ui_n _ _ _ (by decide)]; exact h3)) (cwV 0 hts (gw_V tw_790 tw_792 sl_Mo_frames tw_9 tw_793) rfl rfl rfl (by decide +kernel) ⟨Nat.le_of_ble_eq_true rfl, Nat.le_of_ble_eq_true rfl⟩) ⟨ct_blind (ev := fun _ => True) (fun _ _ _ _ h => h), va_recv hK hP (ci := 8) (q0 := 0) rfl rfl, ct_now (ev := fun _ => True) (fun _ _ _ => trivial) hP hK hD⟩ rfl rfl hl.1 rfl (lv_room (Nat.le_of_ble_eq_true rfl)) dMo_count_38 ⟨Nat.le_of_ble_eq_true rfl, Nat.le_of_ble_eq_true rfl⟩) hD hS hA (fun r4 u4 H locs hw4 hP hD hS => ?_)
          subst hw4
          refine lv_icmp_ge (tgt := 67) hx hb dMo_count_41 (by decide) (fun c41 => ?_) (fun c41 => ?_)
          · have c41 : (hd_nf ns) ≤ 0 := (nI_leI (a := (hd_nf ns)) (b := 0) (by omega) (by omega)).mp (show nI (hd_nf ns) ≤ nI 0 from c41)
            refine lv_iload_n hx hb dMo_count_67 rfl (lv_at hl 3 rfl) ?_
            refine lv_tableIn (off := 40) (tgt := 108) hx hb dMo_count_68 (by decide +kernel) (by decide +kernel) (by decide +kernel) (by decide) ?_
            refine lv_aload_n hx hb dMo_count_108 rfl (lv_at hl 2 rfl) ?_
            refine va_get (D := (dC, dI)) (ci := 8) (v := .int (I1 0 1)) (C := RMo) (T := TMo) (N := 27) hx hb hts inMo hown hK hP 0 rfl rfl 1 (by decide) (hts _ tw_648) (fun _ h9 => h9) rfl dMo_count_109 ?_
            refine rw_i (y := I 0 1) (by rw [eI1, ui_n _ _ _ (by decide)]) ?_
            rw [hQ9]
            exact ct_ri hx hb hr hlocks I1 (Or.inr ⟨_, q1, q2, rfl, by rw [eI1], rfl⟩) hP hD hS (Nat.le_refl _) (Nat.le_refl _) dMo_count_112
          · have c41 : ¬ (hd_nf ns) ≤ 0 := fun q9 => c41 (show nI (hd_nf ns) ≤ nI 0 from (nI_leI (a := (hd_nf ns)) (b := 0) (by omega) (by omega)).mpr q9)
            refine lv_iload_n hx hb dMo_count_44 rfl (lv_at hl 3 rfl) ?_
            refine lv_bipush (v := nI 6) hx hb dMo_count_45 (by decide +kernel) ?_
            refine lv_icmp_ne (tgt := 67) hx hb dMo_count_47 (by decide) (fun c47 => ?_) (fun c47 => ?_)
            · have c47 : ¬ 0 = 6 := fun q9 => c47 (show nI 0 = nI 6 from (nI_eq (a := 0) (b := 6) (by omega) (by omega)).mpr q9)
              refine lv_iload_n hx hb dMo_count_67 rfl (lv_at hl 3 rfl) ?_
              refine lv_tableIn (off := 40) (tgt := 108) hx hb dMo_count_68 (by decide +kernel) (by decide +kernel) (by decide +kernel) (by decide) ?_
              refine lv_aload_n hx hb dMo_count_108 rfl (lv_at hl 2 rfl) ?_
              refine va_get (D := (dC, dI)) (ci := 8) (v := .int (I1 0 1)) (C := RMo) (T := TMo) (N := 27) hx hb hts inMo hown hK hP 0 rfl rfl 1 (by decide) (hts _ tw_648) (fun _ h9 => h9) rfl dMo_count_109 ?_
              refine rw_i (y := I 0 1) (by rw [eI1, ui_n _ _ _ (by decide)]) ?_
              rw [hQ9]
              exact ct_ri hx hb hr hlocks I1 (Or.inr ⟨_, q1, q2, rfl, by rw [eI1], rfl⟩) hP hD hS (Nat.le_refl _) (Nat.le_refl _) dMo_count_112
            · have c47 : 0 = 6 := (nI_eq (a := 0) (b := 6) (by omega) (by omega)).mp (show nI 0 = nI 6 from c47)
              exact absurd c47 (by decide)
        · refine lv_iconst (v := nI 0) hx hb dMo_count_32 (by decide +kernel) ?_
          refine lv_istore_n (lv' := [(2, .int (nI 0)), (0, .ref (b 0)), (1, .int (nI 1))]) hx hb dMo_count_33 rfl hl (by decide) rfl (fun ls hl => ?_)
          refine lv_iconst (v := nI 0) hx hb dMo_count_34 (by decide +kernel) ?_
          refine lv_istore_n (lv' := [(3, .int (nI 0)), (2, .int (nI 0)), (0, .ref (b 0)), (1, .int (nI 1))]) hx hb dMo_count_35 rfl hl (by decide) rfl (fun ls hl => ?_)
          refine lv_iload_n hx hb dMo_count_36 rfl (lv_at hl 0 rfl) ?_
          refine lv_aload_n hx hb dMo_count_37 rfl (lv_at hl 2 rfl) ?_
          refine ct_i (va_runV (As := []) (rest := [.int (nI 0)]) ⟨hx, hb, hml, hown, hts⟩ (kMo_frames l dC dI k b I1 D _ ns hn (by rw [eI1, ui_n _ _ _ (by decide)]; exact h3)) (cwV 0 hts (gw_V tw_790 tw_792 sl_Mo_frames tw_9 tw_793) rfl rfl rfl (by decide +kernel) ⟨Nat.le_of_ble_eq_true rfl, Nat.le_of_ble_eq_true rfl⟩) ⟨ct_blind (ev := fun _ => True) (fun _ _ _ _ h => h), va_recv hK hP (ci := 8) (q0 := 0) rfl rfl, ct_now (ev := fun _ => True) (fun _ _ _ => trivial) hP hK hD⟩ rfl rfl hl.1 rfl (lv_room (Nat.le_of_ble_eq_true rfl)) dMo_count_38 ⟨Nat.le_of_ble_eq_true rfl, Nat.le_of_ble_eq_true rfl⟩) hD hS hA (fun r5 u5 H locs hw5 hP hD hS => ?_)
          subst hw5
          refine lv_icmp_ge (tgt := 67) hx hb dMo_count_41 (by decide) (fun c41 => ?_) (fun c41 => ?_)
          · have c41 : (hd_nf ns) ≤ 0 := (nI_leI (a := (hd_nf ns)) (b := 0) (by omega) (by omega)).mp (show nI (hd_nf ns) ≤ nI 0 from c41)
            refine lv_iload_n hx hb dMo_count_67 rfl (lv_at hl 3 rfl) ?_
            refine lv_tableIn (off := 45) (tgt := 113) hx hb dMo_count_68 (by decide +kernel) (by decide +kernel) (by decide +kernel) (by decide) ?_
            refine lv_aload_n hx hb dMo_count_113 rfl (lv_at hl 2 rfl) ?_
            refine va_get (D := (dC, dI)) (ci := 8) (v := .int (I1 0 3)) (C := RMo) (T := TMo) (N := 27) hx hb hts inMo hown hK hP 0 rfl rfl 3 (by decide) (hts _ tw_650) (fun _ h9 => h9) rfl dMo_count_114 ?_
            refine rw_i (y := I 0 3) (by rw [eI1, ui_n _ _ _ (by decide)]) ?_
            refine rw_i (y := nI ns) h3 ?_
            rw [hQ9]
            exact ct_ri hx hb hr hlocks I1 (Or.inr ⟨_, q1, q2, rfl, by rw [eI1], rfl⟩) hP hD hS (Nat.le_refl _) (Nat.le_refl _) dMo_count_117
          · have c41 : ¬ (hd_nf ns) ≤ 0 := fun q9 => c41 (show nI (hd_nf ns) ≤ nI 0 from (nI_leI (a := (hd_nf ns)) (b := 0) (by omega) (by omega)).mpr q9)
            refine lv_iload_n hx hb dMo_count_44 rfl (lv_at hl 3 rfl) ?_
            refine lv_bipush (v := nI 6) hx hb dMo_count_45 (by decide +kernel) ?_
            refine lv_icmp_ne (tgt := 67) hx hb dMo_count_47 (by decide) (fun c47 => ?_) (fun c47 => ?_)
            · have c47 : ¬ 1 = 6 := fun q9 => c47 (show nI 1 = nI 6 from (nI_eq (a := 1) (b := 6) (by omega) (by omega)).mpr q9)
              refine lv_iload_n hx hb dMo_count_67 rfl (lv_at hl 3 rfl) ?_
              refine lv_tableIn (off := 45) (tgt := 113) hx hb dMo_count_68 (by decide +kernel) (by decide +kernel) (by decide +kernel) (by decide) ?_
              refine lv_aload_n hx hb dMo_count_113 rfl (lv_at hl 2 rfl) ?_
              refine va_get (D := (dC, dI)) (ci := 8) (v := .int (I1 0 3)) (C := RMo) (T := TMo) (N := 27) hx hb hts inMo hown hK hP 0 rfl rfl 3 (by decide) (hts _ tw_650) (fun _ h9 => h9) rfl dMo_count_114 ?_
              refine rw_i (y := I 0 3) (by rw [eI1, ui_n _ _ _ (by decide)]) ?_
              refine rw_i (y := nI ns) h3 ?_
              rw [hQ9]
              exact ct_ri hx hb hr hlocks I1 (Or.inr ⟨_, q1, q2, rfl, by rw [eI1], rfl⟩) hP hD hS (Nat.le_refl _) (Nat.le_refl _) dMo_count_117
            · have c47 : 1 = 6 := (nI_eq (a := 1) (b := 6) (by omega) (by omega)).mp (show nI 1 = nI 6 from c47)
              exact absurd c47 (by decide)
        · refine lv_iconst (v := nI 0) hx hb dMo_count_32 (by decide +kernel) ?_
          refine lv_istore_n (lv' := [(2, .int (nI 0)), (0, .ref (b 0)), (1, .int (nI 2))]) hx hb dMo_count_33 rfl hl (by decide) rfl (fun ls hl => ?_)
          refine lv_iconst (v := nI 0) hx hb dMo_count_34 (by decide +kernel) ?_
          refine lv_istore_n (lv' := [(3, .int (nI 0)), (2, .int (nI 0)), (0, .ref (b 0)), (1, .int (nI 2))]) hx hb dMo_count_35 rfl hl (by decide) rfl (fun ls hl => ?_)
          refine lv_iload_n hx hb dMo_count_36 rfl (lv_at hl 0 rfl) ?_
          refine lv_aload_n hx hb dMo_count_37 rfl (lv_at hl 2 rfl) ?_
          refine ct_i (va_runV (As := []) (rest := [.int (nI 0)]) ⟨hx, hb, hml, hown, hts⟩ (kMo_frames l dC dI k b I1 D _ ns hn (by rw [eI1, ui_n _ _ _ (by decide)]; exact h3)) (cwV 0 hts (gw_V tw_790 tw_792 sl_Mo_frames tw_9 tw_793) rfl rfl rfl (by decide +kernel) ⟨Nat.le_of_ble_eq_true rfl, Nat.le_of_ble_eq_true rfl⟩) ⟨ct_blind (ev := fun _ => True) (fun _ _ _ _ h => h), va_recv hK hP (ci := 8) (q0 := 0) rfl rfl, ct_now (ev := fun _ => True) (fun _ _ _ => trivial) hP hK hD⟩ rfl rfl hl.1 rfl (lv_room (Nat.le_of_ble_eq_true rfl)) dMo_count_38 ⟨Nat.le_of_ble_eq_true rfl, Nat.le_of_ble_eq_true rfl⟩) hD hS hA (fun r6 u6 H locs hw6 hP hD hS => ?_)
          subst hw6
          refine lv_icmp_ge (tgt := 67) hx hb dMo_count_41 (by decide) (fun c41 => ?_) (fun c41 => ?_)
          · have c41 : (hd_nf ns) ≤ 0 := (nI_leI (a := (hd_nf ns)) (b := 0) (by omega) (by omega)).mp (show nI (hd_nf ns) ≤ nI 0 from c41)
            refine lv_iload_n hx hb dMo_count_67 rfl (lv_at hl 3 rfl) ?_
            refine lv_tableIn (off := 50) (tgt := 118) hx hb dMo_count_68 (by decide +kernel) (by decide +kernel) (by decide +kernel) (by decide) ?_
            refine lv_aload_n hx hb dMo_count_118 rfl (lv_at hl 2 rfl) ?_
            refine ct_i (va_runV (As := []) (rest := []) ⟨hx, hb, hml, hown, hts⟩ (kMo_frames l dC dI k b I1 D _ ns hn (by rw [eI1, ui_n _ _ _ (by decide)]; exact h3)) (cwV 0 hts (gw_V tw_790 tw_792 sl_Mo_frames tw_9 tw_793) rfl rfl rfl (by decide +kernel) ⟨Nat.le_of_ble_eq_true rfl, Nat.le_of_ble_eq_true rfl⟩) ⟨ct_blind (ev := fun _ => True) (fun _ _ _ _ h => h), va_recv hK hP (ci := 8) (q0 := 0) rfl rfl, ct_now (ev := fun _ => True) (fun _ _ _ => trivial) hP hK hD⟩ rfl rfl hl.1 rfl (lv_room (Nat.le_of_ble_eq_true rfl)) dMo_count_119 ⟨Nat.le_of_ble_eq_true rfl, Nat.le_of_ble_eq_true rfl⟩) hD hS hA (fun r7 u7 H locs hw7 hP hD hS => ?_)
            subst hw7
            rw [hQ9]
            exact ct_ri hx hb hr hlocks I1 (Or.inr ⟨_, q1, q2, rfl, by rw [eI1], rfl⟩) hP hD hS (Nat.le_refl _) (Nat.le_refl _) dMo_count_122
          · have c41 : ¬ (hd_nf ns) ≤ 0 := fun q9 => c41 (show nI (hd_nf ns) ≤ nI 0 from (nI_leI (a := (hd_nf ns)) (b := 0) (by omega) (by omega)).mpr q9)
            refine lv_iload_n hx hb dMo_count_44 rfl (lv_at hl 3 rfl) ?_
            refine lv_bipush (v := nI 6) hx hb dMo_count_45 (by decide +kernel) ?_
            refine lv_icmp_ne (tgt := 67) hx hb dMo_count_47 (by decide) (fun c47 => ?_) (fun c47 => ?_)
            · have c47 : ¬ 2 = 6 := fun q9 => c47 (show nI 2 = nI 6 from (nI_eq (a := 2) (b := 6) (by omega) (by omega)).mpr q9)
              refine lv_iload_n hx hb dMo_count_67 rfl (lv_at hl 3 rfl) ?_
              refine lv_tableIn (off := 50) (tgt := 118) hx hb dMo_count_68 (by decide +kernel) (by decide +kernel) (by decide +kernel) (by decide) ?_
              refine lv_aload_n hx hb dMo_count_118 rfl (lv_at hl 2 rfl) ?_
              refine ct_i (va_runV (As := []) (rest := []) ⟨hx, hb, hml, hown, hts⟩ (kMo_frames l dC dI k b I1 D _ ns hn (by rw [eI1, ui_n _ _ _ (by decide)]; exact h3)) (cwV 0 hts (gw_V tw_790 tw_792 sl_Mo_frames tw_9 tw_793) rfl rfl rfl (by decide +kernel) ⟨Nat.le_of_ble_eq_true rfl, Nat.le_of_ble_eq_true rfl⟩) ⟨ct_blind (ev := fun _ => True) (fun _ _ _ _ h => h), va_recv hK hP (ci := 8) (q0 := 0) rfl rfl, ct_now (ev := fun _ => True) (fun _ _ _ => trivial) hP hK hD⟩ rfl rfl hl.1 rfl (lv_room (Nat.le_of_ble_eq_true rfl)) dMo_count_119 ⟨Nat.le_of_ble_eq_true rfl, Nat.le_of_ble_eq_true rfl⟩) hD hS hA (fun r8 u8 H locs hw8 hP hD hS => ?_)
              subst hw8
              rw [hQ9]
              exact ct_ri hx hb hr hlocks I1 (Or.inr ⟨_, q1, q2, rfl, by rw [eI1], rfl⟩) hP hD hS (Nat.le_refl _) (Nat.le_refl _) dMo_count_122
            · have c47 : 2 = 6 := (nI_eq (a := 2) (b := 6) (by omega) (by omega)).mp (show nI 2 = nI 6 from c47)
              exact absurd c47 (by decide)
        · refine lv_iconst (v := nI 0) hx hb dMo_count_32 (by decide +kernel) ?_
          refine lv_istore_n (lv' := [(2, .int (nI 0)), (0, .ref (b 0)), (1, .int (nI 3))]) hx hb dMo_count_33 rfl hl (by decide) rfl (fun ls hl => ?_)
          refine lv_iconst (v := nI 0) hx hb dMo_count_34 (by decide +kernel) ?_
          refine lv_istore_n (lv' := [(3, .int (nI 0)), (2, .int (nI 0)), (0, .ref (b 0)), (1, .int (nI 3))]) hx hb dMo_count_35 rfl hl (by decide) rfl (fun ls hl => ?_)
          refine lv_iload_n hx hb dMo_count_36 rfl (lv_at hl 0 rfl) ?_
          refine lv_aload_n hx hb dMo_count_37 rfl (lv_at hl 2 rfl) ?_
          refine ct_i (va_runV (As := []) (rest := [.int (nI 0)]) ⟨hx, hb, hml, hown, hts⟩ (kMo_frames l dC dI k b I1 D _ ns hn (by rw [eI1, ui_n _ _ _ (by decide)]; exact h3)) (cwV 0 hts (gw_V tw_790 tw_792 sl_Mo_frames tw_9 tw_793) rfl rfl rfl (by decide +kernel) ⟨Nat.le_of_ble_eq_true rfl, Nat.le_of_ble_eq_true rfl⟩) ⟨ct_blind (ev := fun _ => True) (fun _ _ _ _ h => h), va_recv hK hP (ci := 8) (q0 := 0) rfl rfl, ct_now (ev := fun _ => True) (fun _ _ _ => trivial) hP hK hD⟩ rfl rfl hl.1 rfl (lv_room (Nat.le_of_ble_eq_true rfl)) dMo_count_38 ⟨Nat.le_of_ble_eq_true rfl, Nat.le_of_ble_eq_true rfl⟩) hD hS hA (fun r9 u9 H locs hw9 hP hD hS => ?_)
          subst hw9
          refine lv_icmp_ge (tgt := 67) hx hb dMo_count_41 (by decide) (fun c41 => ?_) (fun c41 => ?_)
          · have c41 : (hd_nf ns) ≤ 0 := (nI_leI (a := (hd_nf ns)) (b := 0) (by omega) (by omega)).mp (show nI (hd_nf ns) ≤ nI 0 from c41)
            refine lv_iload_n hx hb dMo_count_67 rfl (lv_at hl 3 rfl) ?_
            refine lv_tableIn (off := 55) (tgt := 123) hx hb dMo_count_68 (by decide +kernel) (by decide +kernel) (by decide +kernel) (by decide) ?_
            refine lv_aload_n hx hb dMo_count_123 rfl (lv_at hl 2 rfl) ?_
            refine va_get (D := (dC, dI)) (ci := 8) (v := .int (I1 0 4)) (C := RMo) (T := TMo) (N := 27) hx hb hts inMo hown hK hP 0 rfl rfl 4 (by decide) (hts _ tw_651) (fun _ h9 => h9) rfl dMo_count_124 ?_
            refine rw_i (y := I 0 4) (by rw [eI1, ui_n _ _ _ (by decide)]) ?_
            rw [hQ9]
            exact ct_ri hx hb hr hlocks I1 (Or.inr ⟨_, q1, q2, rfl, by rw [eI1], rfl⟩) hP hD hS (Nat.le_refl _) (Nat.le_refl _) dMo_count_127
          · have c41 : ¬ (hd_nf ns) ≤ 0 := fun q9 => c41 (show nI (hd_nf ns) ≤ nI 0 from (nI_leI (a := (hd_nf ns)) (b := 0) (by omega) (by omega)).mpr q9)
            refine lv_iload_n hx hb dMo_count_44 rfl (lv_at hl 3 rfl) ?_
            refine lv_bipush (v := nI 6) hx hb dMo_count_45 (by decide +kernel) ?_
            refine lv_icmp_ne (tgt := 67) hx hb dMo_count_47 (by decide) (fun c47 => ?_) (fun c47 => ?_)
            · have c47 : ¬ 3 = 6 := fun q9 => c47 (show nI 3 = nI 6 from (nI_eq (a := 3) (b := 6) (by omega) (by omega)).mpr q9)
              refine lv_iload_n hx hb dMo_count_67 rfl (lv_at hl 3 rfl) ?_
              refine lv_tableIn (off := 55) (tgt := 123) hx hb dMo_count_68 (by decide +kernel) (by decide +kernel) (by decide +kernel) (by decide) ?_
              refine lv_aload_n hx hb dMo_count_123 rfl (lv_at hl 2 rfl) ?_
              refine va_get (D := (dC, dI)) (ci := 8) (v := .int (I1 0 4)) (C := RMo) (T := TMo) (N := 27) hx hb hts inMo hown hK hP 0 rfl rfl 4 (by decide) (hts _ tw_651) (fun _ h9 => h9) rfl dMo_count_124 ?_
              refine rw_i (y := I 0 4) (by rw [eI1, ui_n _ _ _ (by decide)]) ?_
              rw [hQ9]
              exact ct_ri hx hb hr hlocks I1 (Or.inr ⟨_, q1, q2, rfl, by rw [eI1], rfl⟩) hP hD hS (Nat.le_refl _) (Nat.le_refl _) dMo_count_127
            · have c47 : 3 = 6 := (nI_eq (a := 3) (b := 6) (by omega) (by omega)).mp (show nI 3 = nI 6 from c47)
              exact absurd c47 (by decide)
        · refine lv_iconst (v := nI 0) hx hb dMo_count_32 (by decide +kernel) ?_
          refine lv_istore_n (lv' := [(2, .int (nI 0)), (0, .ref (b 0)), (1, .int (nI 4))]) hx hb dMo_count_33 rfl hl (by decide) rfl (fun ls hl => ?_)
          refine lv_iconst (v := nI 0) hx hb dMo_count_34 (by decide +kernel) ?_
          refine lv_istore_n (lv' := [(3, .int (nI 0)), (2, .int (nI 0)), (0, .ref (b 0)), (1, .int (nI 4))]) hx hb dMo_count_35 rfl hl (by decide) rfl (fun ls hl => ?_)
          refine lv_iload_n hx hb dMo_count_36 rfl (lv_at hl 0 rfl) ?_
          refine lv_aload_n hx hb dMo_count_37 rfl (lv_at hl 2 rfl) ?_
          refine ct_i (va_runV (As := []) (rest := [.int (nI 0)]) ⟨hx, hb, hml, hown, hts⟩ (kMo_frames l dC dI k b I1 D _ ns hn (by rw [eI1, ui_n _ _ _ (by decide)]; exact h3)) (cwV 0 hts (gw_V tw_790 tw_792 sl_Mo_frames tw_9 tw_793) rfl rfl rfl (by decide +kernel) ⟨Nat.le_of_ble_eq_true rfl, Nat.le_of_ble_eq_true rfl⟩) ⟨ct_blind (ev := fun _ => True) (fun _ _ _ _ h => h), va_recv hK hP (ci := 8) (q0 := 0) rfl rfl, ct_now (ev := fun _ => True) (fun _ _ _ => trivial) hP hK hD⟩ rfl rfl hl.1 rfl (lv_room (Nat.le_of_ble_eq_true rfl)) dMo_count_38 ⟨Nat.le_of_ble_eq_true rfl, Nat.le_of_ble_eq_true rfl⟩) hD hS hA (fun r10 u10 H locs hw10 hP hD hS => ?_)
          subst hw10
          refine lv_icmp_ge (tgt := 67) hx hb dMo_count_41 (by decide) (fun c41 => ?_) (fun c41 => ?_)
          · have c41 : (hd_nf ns) ≤ 0 := (nI_leI (a := (hd_nf ns)) (b := 0) (by omega) (by omega)).mp (show nI (hd_nf ns) ≤ nI 0 from c41)
            refine lv_iload_n hx hb dMo_count_67 rfl (lv_at hl 3 rfl) ?_
            refine lv_tableIn (off := 60) (tgt := 128) hx hb dMo_count_68 (by decide +kernel) (by decide +kernel) (by decide +kernel) (by decide) ?_
            refine lv_aload_n hx hb dMo_count_128 rfl (lv_at hl 2 rfl) ?_
            refine va_get (D := (dC, dI)) (ci := 8) (v := .int (I1 0 5)) (C := RMo) (T := TMo) (N := 27) hx hb hts inMo hown hK hP 0 rfl rfl 5 (by decide) (hts _ tw_652) (fun _ h9 => h9) rfl dMo_count_129 ?_
            refine rw_i (y := I 0 5) (by rw [eI1, ui_n _ _ _ (by decide)]) ?_
            rw [hQ9]
            exact ct_ri hx hb hr hlocks I1 (Or.inr ⟨_, q1, q2, rfl, by rw [eI1], rfl⟩) hP hD hS (Nat.le_refl _) (Nat.le_refl _) dMo_count_132
          · have c41 : ¬ (hd_nf ns) ≤ 0 := fun q9 => c41 (show nI (hd_nf ns) ≤ nI 0 from (nI_leI (a := (hd_nf ns)) (b := 0) (by omega) (by omega)).mpr q9)
            refine lv_iload_n hx hb dMo_count_44 rfl (lv_at hl 3 rfl) ?_
            refine lv_bipush (v := nI 6) hx hb dMo_count_45 (by decide +kernel) ?_
            refine lv_icmp_ne (tgt := 67) hx hb dMo_count_47 (by decide) (fun c47 => ?_) (fun c47 => ?_)
            · have c47 : ¬ 4 = 6 := fun q9 => c47 (show nI 4 = nI 6 from (nI_eq (a := 4) (b := 6) (by omega) (by omega)).mpr q9)
              refine lv_iload_n hx hb dMo_count_67 rfl (lv_at hl 3 rfl) ?_
              refine lv_tableIn (off := 60) (tgt := 128) hx hb dMo_count_68 (by decide +kernel) (by decide +kernel) (by decide +kernel) (by decide) ?_
              refine lv_aload_n hx hb dMo_count_128 rfl (lv_at hl 2 rfl) ?_
              refine va_get (D := (dC, dI)) (ci := 8) (v := .int (I1 0 5)) (C := RMo) (T := TMo) (N := 27) hx hb hts inMo hown hK hP 0 rfl rfl 5 (by decide) (hts _ tw_652) (fun _ h9 => h9) rfl dMo_count_129 ?_
              refine rw_i (y := I 0 5) (by rw [eI1, ui_n _ _ _ (by decide)]) ?_
              rw [hQ9]
              exact ct_ri hx hb hr hlocks I1 (Or.inr ⟨_, q1, q2, rfl, by rw [eI1], rfl⟩) hP hD hS (Nat.le_refl _) (Nat.le_refl _) dMo_count_132
            · have c47 : 4 = 6 := (nI_eq (a := 4) (b := 6) (by omega) (by omega)).mp (show nI 4 = nI 6 from c47)
              exact absurd c47 (by decide)
        · refine lv_iconst (v := nI 0) hx hb dMo_count_32 (by decide +kernel) ?_
          refine lv_istore_n (lv' := [(2, .int (nI 0)), (0, .ref (b 0)), (1, .int (nI 5))]) hx hb dMo_count_33 rfl hl (by decide) rfl (fun ls hl => ?_)
          refine lv_iconst (v := nI 0) hx hb dMo_count_34 (by decide +kernel) ?_
          refine lv_istore_n (lv' := [(3, .int (nI 0)), (2, .int (nI 0)), (0, .ref (b 0)), (1, .int (nI 5))]) hx hb dMo_count_35 rfl hl (by decide) rfl (fun ls hl => ?_)
          refine lv_iload_n hx hb dMo_count_36 rfl (lv_at hl 0 rfl) ?_
          refine lv_aload_n hx hb dMo_count_37 rfl (lv_at hl 2 rfl) ?_
          refine ct_i (va_runV (As := []) (rest := [.int (nI 0)]) ⟨hx, hb, hml, hown, hts⟩ (kMo_frames l dC dI k b I1 D _ ns hn (by rw [eI1, ui_n _ _ _ (by decide)]; exact h3)) (cwV 0 hts (gw_V tw_790 tw_792 sl_Mo_frames tw_9 tw_793) rfl rfl rfl (by decide +kernel) ⟨Nat.le_of_ble_eq_true rfl, Nat.le_of_ble_eq_true rfl⟩) ⟨ct_blind (ev := fun _ => True) (fun _ _ _ _ h => h), va_recv hK hP (ci := 8) (q0 := 0) rfl rfl, ct_now (ev := fun _ => True) (fun _ _ _ => trivial) hP hK hD⟩ rfl rfl hl.1 rfl (lv_room (Nat.le_of_ble_eq_true rfl)) dMo_count_38 ⟨Nat.le_of_ble_eq_true rfl, Nat.le_of_ble_eq_true rfl⟩) hD hS hA (fun r11 u11 H locs hw11 hP hD hS => ?_)
          subst hw11
          refine lv_icmp_ge (tgt := 67) hx hb dMo_count_41 (by decide) (fun c41 => ?_) (fun c41 => ?_)
          · have c41 : (hd_nf ns) ≤ 0 := (nI_leI (a := (hd_nf ns)) (b := 0) (by omega) (by omega)).mp (show nI (hd_nf ns) ≤ nI 0 from c41)
            refine lv_iload_n hx hb dMo_count_67 rfl (lv_at hl 3 rfl) ?_
            refine lv_tableIn (off := 65) (tgt := 133) hx hb dMo_count_68 (by decide +kernel) (by decide +kernel) (by decide +kernel) (by decide) ?_
            refine lv_aload_n hx hb dMo_count_133 rfl (lv_at hl 2 rfl) ?_
            refine va_get (D := (dC, dI)) (ci := 8) (v := .int (I1 0 6)) (C := RMo) (T := TMo) (N := 27) hx hb hts inMo hown hK hP 0 rfl rfl 6 (by decide) (hts _ tw_653) (fun _ h9 => h9) rfl dMo_count_134 ?_
            refine rw_i (y := I 0 6) (by rw [eI1, ui_n _ _ _ (by decide)]) ?_
            rw [hQ9]
            exact ct_ri hx hb hr hlocks I1 (Or.inr ⟨_, q1, q2, rfl, by rw [eI1], rfl⟩) hP hD hS (Nat.le_refl _) (Nat.le_refl _) dMo_count_137
          · have c41 : ¬ (hd_nf ns) ≤ 0 := fun q9 => c41 (show nI (hd_nf ns) ≤ nI 0 from (nI_leI (a := (hd_nf ns)) (b := 0) (by omega) (by omega)).mpr q9)
            refine lv_iload_n hx hb dMo_count_44 rfl (lv_at hl 3 rfl) ?_
            refine lv_bipush (v := nI 6) hx hb dMo_count_45 (by decide +kernel) ?_
            refine lv_icmp_ne (tgt := 67) hx hb dMo_count_47 (by decide) (fun c47 => ?_) (fun c47 => ?_)
            · have c47 : ¬ 5 = 6 := fun q9 => c47 (show nI 5 = nI 6 from (nI_eq (a := 5) (b := 6) (by omega) (by omega)).mpr q9)
              refine lv_iload_n hx hb dMo_count_67 rfl (lv_at hl 3 rfl) ?_
              refine lv_tableIn (off := 65) (tgt := 133) hx hb dMo_count_68 (by decide +kernel) (by decide +kernel) (by decide +kernel) (by decide) ?_
              refine lv_aload_n hx hb dMo_count_133 rfl (lv_at hl 2 rfl) ?_
              refine va_get (D := (dC, dI)) (ci := 8) (v := .int (I1 0 6)) (C := RMo) (T := TMo) (N := 27) hx hb hts inMo hown hK hP 0 rfl rfl 6 (by decide) (hts _ tw_653) (fun _ h9 => h9) rfl dMo_count_134 ?_
              refine rw_i (y := I 0 6) (by rw [eI1, ui_n _ _ _ (by decide)]) ?_
              rw [hQ9]
              exact ct_ri hx hb hr hlocks I1 (Or.inr ⟨_, q1, q2, rfl, by rw [eI1], rfl⟩) hP hD hS (Nat.le_refl _) (Nat.le_refl _) dMo_count_137
            · have c47 : 5 = 6 := (nI_eq (a := 5) (b := 6) (by omega) (by omega)).mp (show nI 5 = nI 6 from c47)
              exact absurd c47 (by decide)
        · refine lv_iconst (v := nI 0) hx hb dMo_count_32 (by decide +kernel) ?_
          refine lv_istore_n (lv' := [(2, .int (nI 0)), (0, .ref (b 0)), (1, .int (nI 6))]) hx hb dMo_count_33 rfl hl (by decide) rfl (fun ls hl => ?_)
          refine lv_iconst (v := nI 0) hx hb dMo_count_34 (by decide +kernel) ?_
          refine lv_istore_n (lv' := [(3, .int (nI 0)), (2, .int (nI 0)), (0, .ref (b 0)), (1, .int (nI 6))]) hx hb dMo_count_35 rfl hl (by decide) rfl (fun ls hl => ?_)
          have L36 : ∀ (n36 : Nat) (f : Nat), hd_nf ns - f < n36 → f ≤ hd_nf ns → ∀ (H : Heap) (locs : List Loc), va_P (dC, dI) vwCl (wm k b I1 D) H → va_D A (wm k b I1 D) → va_S A s.heap H locs → ∀ ls : Array Slot, lv_has ls 4 [(0, .ref (b 0)), (1, .int (nI 6)), (2, .int (nI (ld_cnt (D 1) (D 0 0) f))), (3, .int (nI f))] → W p l e (headSpec wMo_count ({ frames := 3, cells := 0, slots := 0, locals := 80 })).room s m [.ref (b 0), .int (nI 6)].toArray below meth c H locs 0 0 Q9 (F0 m 36 ls []) := by
            intro n36
            induction n36 with
            | zero => intro f hm; exact absurd hm (Nat.not_lt_zero _)
            | succ n36 ih36 =>
              intro f hm36 hf H locs hP hD hS ls hl
              refine lv_iload_n hx hb dMo_count_36 rfl (lv_at hl 3 rfl) ?_
              refine lv_aload_n hx hb dMo_count_37 rfl (lv_at hl 0 rfl) ?_
              refine ct_i (va_runV (As := []) (rest := [.int (nI f)]) ⟨hx, hb, hml, hown, hts⟩ (kMo_frames l dC dI k b I1 D _ ns hn (by rw [eI1, ui_n _ _ _ (by decide)]; exact h3)) (cwV 0 hts (gw_V tw_790 tw_792 sl_Mo_frames tw_9 tw_793) rfl rfl rfl (by decide +kernel) ⟨Nat.le_of_ble_eq_true rfl, Nat.le_of_ble_eq_true rfl⟩) ⟨ct_blind (ev := fun _ => True) (fun _ _ _ _ h => h), va_recv hK hP (ci := 8) (q0 := 0) rfl rfl, ct_now (ev := fun _ => True) (fun _ _ _ => trivial) hP hK hD⟩ rfl rfl hl.1 rfl (lv_room (Nat.le_of_ble_eq_true rfl)) dMo_count_38 ⟨Nat.le_of_ble_eq_true rfl, Nat.le_of_ble_eq_true rfl⟩) hD hS hA (fun r12 u12 H locs hw12 hP hD hS => ?_)
              subst hw12
              refine lv_icmp_ge (tgt := 67) hx hb dMo_count_41 (by decide) (fun c41 => ?_) (fun c41 => ?_)
              · have c41 : (hd_nf ns) ≤ f := (nI_leI (a := (hd_nf ns)) (b := f) (by omega) (by omega)).mp (show nI (hd_nf ns) ≤ nI f from c41)
                obtain rfl : f = hd_nf ns := by omega
                refine lv_iload_n hx hb dMo_count_67 rfl (lv_at hl 1 rfl) ?_
                refine lv_tableOut (tgt := 138) hx hb dMo_count_68 (by decide +kernel) (by decide) ?_
                refine lv_iload_n hx hb dMo_count_138 rfl (lv_at hl 2 rfl) ?_
                rw [hQ9]
                exact ct_ri hx hb hr hlocks I1 (Or.inr ⟨_, q1, q2, rfl, by rw [eI1], rfl⟩) hP hD hS (Nat.le_refl _) (Nat.le_refl _) dMo_count_139
              · have c41 : ¬ (hd_nf ns) ≤ f := fun q9 => c41 (show nI (hd_nf ns) ≤ nI f from (nI_leI (a := (hd_nf ns)) (b := f) (by omega) (by omega)).mpr q9)
                have hf2 := nf_lt (n := ns) (j := f) (by omega)
                refine lv_iload_n hx hb dMo_count_44 rfl (lv_at hl 1 rfl) ?_
                refine lv_bipush (v := nI 6) hx hb dMo_count_45 (by decide +kernel) ?_
                refine lv_icmp_ne (tgt := 67) hx hb dMo_count_47 (by decide) (fun c47 => ?_) (fun c47 => ?_)
                · have c47 : ¬ 6 = 6 := fun q9 => c47 (show nI 6 = nI 6 from (nI_eq (a := 6) (b := 6) (by omega) (by omega)).mpr q9)
                  exact absurd (by decide) c47
                · have c47 : 6 = 6 := (nI_eq (a := 6) (b := 6) (by omega) (by omega)).mp (show nI 6 = nI 6 from c47)
                  refine lv_aload_n hx hb dMo_count_50 rfl (lv_at hl 0 rfl) ?_
                  refine lv_iload_n hx hb dMo_count_51 rfl (lv_at hl 3 rfl) ?_
                  refine ct_i (va_runV (As := [.int (nI f)]) (rest := []) ⟨hx, hb, hml, hown, hts⟩ (kMo_isLoud l dC dI k b I1 D _ f (by omega) (fun i hi => hsm _ (by omega)) hc hsn) (cwV 1 hts (gw_V tw_850 tw_852 sl_Mo_isLoud tw_9 tw_853) rfl rfl rfl (by decide +kernel) ⟨Nat.le_of_ble_eq_true rfl, Nat.le_of_ble_eq_true rfl⟩) ⟨ct_blind (ev := fun _ => True) (fun _ _ _ _ h => h), va_recv hK hP (ci := 8) (q0 := 0) rfl rfl, ct_now (ev := fun _ => True) (fun _ _ _ => trivial) hP hK hD⟩ rfl rfl hl.1 rfl (lv_room (Nat.le_of_ble_eq_true rfl)) dMo_count_52 ⟨Nat.le_of_ble_eq_true rfl, Nat.le_of_ble_eq_true rfl⟩) hD hS hA (fun r13 u13 H locs hw13 hP hD hS => ?_)
                  by_cases g52 : hd_ld (D 1) f (D 0 0)
                  · rw [if_pos g52] at hw13
                    subst hw13
                    refine rw_i (y := nI 1) rfl ?_
                    refine lv_if_eq (tgt := 61) hx hb dMo_count_55 (by decide) (fun c55 => ?_) (fun c55 => ?_)
                    · have c55 : 1 = 0 := (nI_eq (a := 1) (b := 0) (by omega) (by omega)).mp (show nI 1 = nI 0 from c55)
                      exact absurd c55 (by decide)
                    · have c55 : ¬ 1 = 0 := fun q9 => c55 (show nI 1 = nI 0 from (nI_eq (a := 1) (b := 0) (by omega) (by omega)).mpr q9)
                      refine lv_iinc (v := nI (ld_cnt (D 1) (D 0 0) (f + 1))) (lv' := [(2, .int (nI (ld_cnt (D 1) (D 0 0) (f + 1)))), (0, .ref (b 0)), (1, .int (nI 6)), (3, .int (nI f))]) hx hb dMo_count_58 hl (k := 2) rfl ((nI_1 _).trans (by rw [ld_s1 g52])) (by decide) rfl (fun ls hl => ?_)
                      refine lv_iinc (v := nI (f + 1)) (lv' := [(3, .int (nI (f + 1))), (2, .int (nI (ld_cnt (D 1) (D 0 0) (f + 1)))), (0, .ref (b 0)), (1, .int (nI 6))]) hx hb dMo_count_61 hl (k := 3) rfl (nI_1 _) (by decide) rfl (fun ls hl => ?_)
                      refine lv_goto (tgt := 36) hx hb dMo_count_64 (by decide) ?_
                      exact ih36 (f + 1) (by omega) (by omega) _ _ hP hD hS ls (lv_sub hl [2, 3, 1, 0] rfl)
                  · rw [if_neg g52] at hw13
                    subst hw13
                    refine rw_i (y := nI 0) rfl ?_
                    refine lv_if_eq (tgt := 61) hx hb dMo_count_55 (by decide) (fun c55 => ?_) (fun c55 => ?_)
                    · have c55 : 0 = 0 := (nI_eq (a := 0) (b := 0) (by omega) (by omega)).mp (show nI 0 = nI 0 from c55)
                      rw [← ld_s0 g52] at hl
                      refine lv_iinc (v := nI (f + 1)) (lv' := [(3, .int (nI (f + 1))), (0, .ref (b 0)), (1, .int (nI 6)), (2, .int (nI (ld_cnt (D 1) (D 0 0) (f + 1))))]) hx hb dMo_count_61 hl (k := 3) rfl (nI_1 _) (by decide) rfl (fun ls hl => ?_)
                      refine lv_goto (tgt := 36) hx hb dMo_count_64 (by decide) ?_
                      exact ih36 (f + 1) (by omega) (by omega) _ _ hP hD hS ls (lv_sub hl [1, 2, 3, 0] rfl)
                    · have c55 : ¬ 0 = 0 := fun q9 => c55 (show nI 0 = nI 0 from (nI_eq (a := 0) (b := 0) (by omega) (by omega)).mpr q9)
                      exact absurd (by decide) c55
          exact L36 _ 0 (Nat.lt_succ_self _) (by omega) _ _ hP hD hS ls (lv_sub hl [2, 3, 1, 0] rfl)
      · have c27 : ¬ 0 = 0 := fun q9 => c27 (show nI 0 = nI 0 from (nI_eq (a := 0) (b := 0) (by omega) (by omega)).mpr q9)
        exact absurd (by decide) c27
    · have c15 : 1 = 0 := (nI_eq (a := 1) (b := 0) (by omega) (by omega)).mp (show nI 1 = nI 0 from c15)
      exact absurd c15 (by decide)
  · rw [if_neg g12] at hw2
    subst hw2
    refine rw_i (y := nI 0) rfl ?_
    refine lv_if_ne (tgt := 22) hx hb dMo_count_15 (by decide) (fun c15 => ?_) (fun c15 => ?_)
    · have c15 : ¬ 0 = 0 := fun q9 => c15 (show nI 0 = nI 0 from (nI_eq (a := 0) (b := 0) (by omega) (by omega)).mpr q9)
      exact absurd (by decide) c15
    · have c15 : 0 = 0 := (nI_eq (a := 0) (b := 0) (by omega) (by omega)).mp (show nI 0 = nI 0 from c15)
      refine lv_iconst (v := nI 1) hx hb dMo_count_18 (by decide +kernel) ?_
      refine lv_goto (tgt := 23) hx hb dMo_count_19 (by decide) ?_
      refine lv_iconst (v := nI 1) hx hb dMo_count_23 (by decide +kernel) ?_
      refine ct_i (va_runV (As := [.int (nI 1), .int (nI 1)]) (rest := []) ⟨hx, hb, hml, hown, hts⟩ (kMo_fails1 l dC dI k b I1 D _ 1 (by omega) (by omega) (by rw [eI1, ui_s])) (cwV 2 hts (gw_V tw_737 tw_739 sl_Mo_fails tw_9 tw_740) rfl rfl rfl (by decide +kernel) ⟨Nat.le_of_ble_eq_true rfl, Nat.le_of_ble_eq_true rfl⟩) ⟨ct_blind (ev := fun _ => True) (fun _ _ _ _ h => h), va_recv hK hP (ci := 8) (q0 := 0) rfl rfl, ct_now (ev := fun _ => True) (fun _ _ _ => trivial) hP hK hD⟩ rfl rfl hl.1 rfl (lv_room (Nat.le_of_ble_eq_true rfl)) dMo_count_24 ⟨Nat.le_of_ble_eq_true rfl, Nat.le_of_ble_eq_true rfl⟩) hD hS hA (fun r14 u14 H locs hw14 hP hD hS => ?_)
      obtain ⟨r14e, eu14⟩ := hw14
      subst r14e
      refine lv_if_eq (tgt := 32) hx hb dMo_count_27 (by decide) (fun c27 => ?_) (fun c27 => ?_)
      · have c27 : 1 = 0 := (nI_eq (a := 1) (b := 0) (by omega) (by omega)).mp (show nI 1 = nI 0 from c27)
        exact absurd c27 (by decide)
      · have c27 : ¬ 1 = 0 := fun q9 => c27 (show nI 1 = nI 0 from (nI_eq (a := 1) (b := 0) (by omega) (by omega)).mpr q9)
        refine lv_iconst (v := nI 0) hx hb dMo_count_30 (by decide +kernel) ?_
        rw [hQ9]
        exact ct_ri hx hb hr hlocks u14 (Or.inl ⟨fun q => g12 (in_ba (by decide) (by decide) q), by rw [eu14, eI1]⟩) hP hD hS (Nat.le_refl _) (Nat.le_refl _) dMo_count_31
set_option maxHeartbeats 4000000 in
set_option maxRecDepth 100000 in
theorem kMo_heard (l : Launch) (dC : Nat → ClassId) (dI : Nat → Nat → Nat) (k : Nat → ClassId) (b : Nat → Nat) (I : Nat → Nat → Int32) (D : Nat → Nat → UInt64) (sz : Nat) (t bits : Nat) (oc : Nat → Nat) (ht : t + 2 ≤ 400) (hbt : bits < 65536) (ho : ∀ j, j < 400 → I 1 j = nI (oc j) ∧ oc j < 256) : Met l yMo_heard wMo_heard ({ frames := 1, cells := 0, slots := 0, locals := 25 }) (va_Pc [.ref (b 0), .int (nI t), .int (nI bits)] (ct_pre (dC, dI) (mo_ty k) (fun _ => True) (wm k b I D) sz)) (va_Qd (fun r (_ : Unit) => r = fi_ch oc bits t) (fun u t => ct_at (dC, dI) (va_A (wm k b I D) sz) ((fun _ => wm k b I D) u) t) (va_A (wm k b I D) sz)) 0 0 (va_A (wm k b I D) sz) := by
  refine Met.ofW (cc := cMo_heard) (maxL := 4) (ret := (some .double)) (by decide) rfl ?_
  intro p e s m args below meth c s₁ B hml hv
  obtain ⟨rfl, hsz, hP, hK, hD0, hE⟩ := hv
  have hx := B.exec
  have hb := B.bytes
  have hr := B.returns
  have hts : ∀ w ∈ W0, w.before [.ref (b 0), .int (nI t), .int (nI bits)].toArray s = true := fun w h => atoms_spec (ws := wMo_heard) B.pre w (List.mem_cons_of_mem _ h)
  have hown : s.vm.findClass RMo = some m.cls := findClass_of_methodNamed B.named
  have hlocks := B.notSynchronized
  subst hsz
  have hD := hD0.self (sz := s.heap.size)
  generalize hAe : va_A (wm k b I D) s.heap.size = A at hD ⊢
  have hA : ∀ q : Nat, s.heap.size ≤ q → A q := fun q h => by rw [← hAe]; exact Or.inr h
  have hS : va_S A s.heap s.heap [] := va_S.rf
  have hl := lv_entry ([.ref (b 0), .int (nI t), .int (nI bits)]) (n := 4) (Nat.le_of_ble_eq_true rfl)
  rw [lg_entry_eq]
  generalize (lg_sl ([.ref (b 0), .int (nI t), .int (nI bits)]) ++ List.replicate (4 - (lg_sl ([.ref (b 0), .int (nI t), .int (nI bits)])).length) Slot.unset).toArray = ls at hl ⊢
  have hl : lv_has ls 4 [(0, .ref (b 0)), (1, .int (nI t)), (2, .int (nI bits))] := hl
  refine lv_iload_n hx hb dMo_heard_0 rfl (lv_at hl 2 rfl) ?_
  refine lv_bipush (v := nI 8) hx hb dMo_heard_1 (by decide +kernel) ?_
  refine lv_icmp_ne (tgt := 23) hx hb dMo_heard_3 (by decide) (fun c3 => ?_) (fun c3 => ?_)
  · have c3 : ¬ bits = 8 := fun q9 => c3 (show nI bits = nI 8 from (nI_eq (a := bits) (b := 8) (by omega) (by omega)).mpr q9)
    refine lv_aload_n hx hb dMo_heard_23 rfl (lv_at hl 0 rfl) ?_
    refine lv_iload_n hx hb dMo_heard_24 rfl (lv_at hl 1 rfl) ?_
    refine lv_iconst (v := nI 2) hx hb dMo_heard_25 (by decide +kernel) ?_
    refine ct_l (va_runV (As := [.int (nI t), .int (nI 2)]) (rest := []) ⟨hx, hb, hml, hown, hts⟩ (kMo_number l dC dI k b I D _ t 2 oc (by omega) (by omega) (by omega) ho) (cwV 2 hts (gw_V tw_750 tw_752 sl_Mo_number tw_9 tw_753) rfl rfl rfl (by decide +kernel) ⟨Nat.le_of_ble_eq_true rfl, Nat.le_of_ble_eq_true rfl⟩) ⟨ct_blind (ev := fun _ => True) (fun _ _ _ _ h => h), va_recv hK hP (ci := 8) (q0 := 0) rfl rfl, ct_now (ev := fun _ => True) (fun _ _ _ => trivial) hP hK hD⟩ rfl rfl hl.1 rfl (lv_room (Nat.le_of_ble_eq_true rfl)) dMo_heard_26 ⟨Nat.le_of_ble_eq_true rfl, Nat.le_of_ble_eq_true rfl⟩) hD hS hA (fun r1 u1 H locs hw1 hP hD hS => ?_)
    subst hw1
    refine lv_l2i (v := nI (nu oc t 2)) hx hb dMo_heard_29 (lN_i _) ?_
    refine lv_i2s (v := (nI (nu oc t 2)).toInt16.toInt32) hx hb dMo_heard_30 rfl ?_
    refine rw_i (y := fi_ci oc bits t) ((if_neg c3).symm) ?_
    refine lv_istore_n (lv' := [(3, .int (fi_ci oc bits t)), (0, .ref (b 0)), (1, .int (nI t)), (2, .int (nI bits))]) hx hb dMo_heard_31 rfl hl (by decide) rfl (fun ls hl => ?_)
    refine lv_iload_n hx hb dMo_heard_32 rfl (lv_at hl 0 rfl) ?_
    refine lv_i2d hx hb dMo_heard_33 ?_
    refine lv_ldc2d (v := 4674736413210574848) hx hb hown (hts _ tw_766) dMo_heard_34 ?_
    refine lv_ddiv hx hb dMo_heard_37 (fb_n (fi_ch_b oc bits t) (by decide)) ?_
    refine rw_d (y := fi_ch oc bits t) rfl ?_
    exact ct_rd hx hb hr hlocks () rfl hP hD hS (Nat.le_refl _) (Nat.le_refl _) dMo_heard_38
  · have c3 : bits = 8 := (nI_eq (a := bits) (b := 8) (by omega) (by omega)).mp (show nI bits = nI 8 from c3)
    refine lv_aload_n hx hb dMo_heard_6 rfl (lv_at hl 0 rfl) ?_
    refine va_get (D := (dC, dI)) (ci := 8) (v := .ref (b 1)) (C := RMo) (T := TMo) (N := 27) hx hb hts inMo hown hK hP 0 rfl rfl 12 (by decide) (hts _ tw_659) (fun _ h9 => h9) rfl dMo_heard_7 ?_
    refine lv_iload_n hx hb dMo_heard_10 rfl (lv_at hl 1 rfl) ?_
    refine rw_ald_i hx hb hK hP 1 0 rfl rfl (by omega) (by decide) dMo_heard_11 ?_
    refine rw_i (y := nI (oc t)) ((ho _ (by omega)).1) ?_
    refine lv_sipush (v := nI 128) hx hb dMo_heard_12 (by decide +kernel) ?_
    refine lv_isub hx hb dMo_heard_15 ?_
    refine lv_sipush (v := nI 256) hx hb dMo_heard_16 (by decide +kernel) ?_
    refine lv_imul hx hb dMo_heard_19 ?_
    refine lv_goto (tgt := 31) hx hb dMo_heard_20 (by decide) ?_
    refine rw_i (y := fi_ci oc bits t) ((if_pos c3).symm) ?_
    refine lv_istore_n (lv' := [(3, .int (fi_ci oc bits t)), (0, .ref (b 0)), (1, .int (nI t)), (2, .int (nI bits))]) hx hb dMo_heard_31 rfl hl (by decide) rfl (fun ls hl => ?_)
    refine lv_iload_n hx hb dMo_heard_32 rfl (lv_at hl 0 rfl) ?_
    refine lv_i2d hx hb dMo_heard_33 ?_
    refine lv_ldc2d (v := 4674736413210574848) hx hb hown (hts _ tw_766) dMo_heard_34 ?_
    refine lv_ddiv hx hb dMo_heard_37 (fb_n (fi_ch_b oc bits t) (by decide)) ?_
    refine rw_d (y := fi_ch oc bits t) rfl ?_
    exact ct_rd hx hb hr hlocks () rfl hP hD hS (Nat.le_refl _) (Nat.le_refl _) dMo_heard_38
