set_option maxHeartbeats 4000000 in
set_option maxRecDepth 100000 in
theorem kMo_writes (l : Launch) (dC : Nat → ClassId) (dI : Nat → Nat → Nat) (k : Nat → ClassId) (b : Nat → Nat) (I : Nat → Nat → Int32) (D : Nat → Nat → UInt64) (sz : Nat) (f m9 nw : Nat) (ns : Nat) (hn : ns ≤ 320) (h3 : I 0 3 = nI ns) (hsm : ∀ i, i < ns → fb_ 1057 (D 1 i)) (hc : ∀ j, j < 32 → D 7 j = hd_C j) (hsn : ∀ j, j < 32 → D 8 j = hd_S j) (np : Nat) (rw9 : Nat → Nat) (hnp : np ≤ 6) (h5 : I 0 5 = nI np) (hr9 : ∀ j, j < np → I 3 j = nI (rw9 j) ∧ 1 ≤ rw9 j ∧ rw9 j ≤ 8) (hl9 : ∀ j, j < np → ∀ q, q < 4 * rw9 j → fb_ 1155 (D 2 (32 * j + q))) (h6 : I 0 6 = nI nw) (hw : nw < 20) (hf : f + m9 ≤ hd_nf ns) (g1 : 1 ≤ m9) (g2 : m9 ≤ 10) : Met l yMo_writes wMo_writes ({ frames := 3, cells := 0, slots := 0, locals := 80 }) (va_Pc [.ref (b 0), .int (nI f), .int (nI m9)] (ct_pre (dC, dI) (mo_ty k) (fun _ => True) (wm k b I D) sz)) (va_Qv (fun (u : (Nat → Nat → Int32) × (Nat → Nat → UInt64)) => (∀ z, z ≠ 6 → z ≠ 8 → z ≠ 9 → u.1 0 z = I 0 z) ∧ u.1 0 6 = nI (nw + 1) ∧ (∀ c, c ≠ 0 → c < 4 → u.1 c = I c) ∧ (∀ c, c ≠ 0 → ∀ z, z ≠ nw → u.1 c z = I c z) ∧ u.1 5 nw = nI f ∧ u.1 6 nw = nI m9 ∧ u.1 7 nw = hr_n (fun k9 => hw_wa (hw_lv (D 1) f) (fun q => D 2 (32 * k9 + q)) m9 (rw9 k9)) np ∧ u.1 4 nw = hr_l (fun k9 => hw_wa (hw_lv (D 1) f) (fun q => D 2 (32 * k9 + q)) m9 (rw9 k9)) (I 2) (D 0 1) np ∧ (∀ c, c ≠ 3 → c ≠ 4 → c ≠ 5 → c ≠ 6 → u.2 c = D c) ∧ (∀ z, z ≠ nw → u.2 3 z = D 3 z) ∧ u.2 3 nw = (hr_p (fun k9 => hw_wa (hw_lv (D 1) f) (fun q => D 2 (32 * k9 + q)) m9 (rw9 k9)) np).2) (fun u t => ct_at (dC, dI) (va_A (wm k b I D) sz) ((fun u => wm k b u.1 u.2) u) t) (va_A (wm k b I D) sz)) 0 0 (va_A (wm k b I D) sz) := by
  refine Met.ofW (cc := cMo_writes) (maxL := 7) (ret := none) (by decide) rfl ?_
  intro p e s m args below meth c s₁ B hml hv
  obtain ⟨rfl, hsz, hP, hK, hD0, hE⟩ := hv
  have hx := B.exec
  have hb := B.bytes
  have hr := B.returns
  have hts : ∀ w ∈ W0, w.before [.ref (b 0), .int (nI f), .int (nI m9)].toArray s = true := fun w h => atoms_spec (ws := wMo_writes) B.pre w (List.mem_cons_of_mem _ h)
  have hown : s.vm.findClass RMo = some m.cls := findClass_of_methodNamed B.named
  have hlocks := B.notSynchronized
  subst hsz
  have hD := hD0.self (sz := s.heap.size)
  generalize hAe : va_A (wm k b I D) s.heap.size = A at hD ⊢
  have hA : ∀ q : Nat, s.heap.size ≤ q → A q := fun q h => by rw [← hAe]; exact Or.inr h
  have hS : va_S A s.heap s.heap [] := va_S.rf
  have hl := lv_entry ([.ref (b 0), .int (nI f), .int (nI m9)]) (n := 7) (Nat.le_of_ble_eq_true rfl)
  rw [lg_entry_eq]
  generalize (lg_sl ([.ref (b 0), .int (nI f), .int (nI m9)]) ++ List.replicate (7 - (lg_sl ([.ref (b 0), .int (nI f), .int (nI m9)])).length) Slot.unset).toArray = ls at hl ⊢
  have hl : lv_has ls 7 [(0, .ref (b 0)), (1, .int (nI f)), (2, .int (nI m9))] := hl
  refine lp_q (fun Q9 hQ9 => ?_)
  have hnf := nf_le hn
  generalize hW9 : (fun k9 => hw_wa (hw_lv (D 1) f) (fun q => D 2 (32 * k9 + q)) m9 (rw9 k9)) = W9
  have hWk : ∀ k9, W9 k9 = hw_wa (hw_lv (D 1) f) (fun q => D 2 (32 * k9 + q)) m9 (rw9 k9) := fun k9 => by rw [← hW9]
  refine lv_aload_n hx hb dMo_writes_0 rfl (lv_at hl 0 rfl) ?_
  refine va_get (D := (dC, dI)) (ci := 8) (v := .int (I 0 6)) (C := RMo) (T := TMo) (N := 27) hx hb hts inMo hown hK hP 0 rfl rfl 6 (by decide) (hts _ tw_653) (fun _ h9 => h9) rfl dMo_writes_1 ?_
  refine rw_i (y := nI nw) h6 ?_
  refine lv_istore_n (lv' := [(3, .int (nI nw)), (0, .ref (b 0)), (1, .int (nI f)), (2, .int (nI m9))]) hx hb dMo_writes_4 rfl hl (by decide) rfl (fun ls hl => ?_)
  refine lv_aload_n hx hb dMo_writes_5 rfl (lv_at hl 1 rfl) ?_
  refine lv_dup hx hb dMo_writes_6 rfl ?_
  refine va_get (D := (dC, dI)) (ci := 8) (v := .int (I 0 6)) (C := RMo) (T := TMo) (N := 27) hx hb hts inMo hown hK hP 0 rfl rfl 6 (by decide) (hts _ tw_653) (fun _ h9 => h9) rfl dMo_writes_7 ?_
  refine rw_i (y := nI nw) h6 ?_
  refine lv_iconst (v := nI 1) hx hb dMo_writes_10 (by decide +kernel) ?_
  refine lv_iadd hx hb dMo_writes_11 ?_
  refine rw_i (y := nI (nw + 1)) (nI_add _ _) ?_
  refine va_put (D := (dC, dI)) (ci := 8) (fs := mo_f b I D) (v := .int (nI (nw + 1))) (ty := .int) (C := RMo) (T := TMo) (N := 27) hx hb hts inMo tyMo tyMo_ok nmMo hown hK hP hD hS 0 rfl rfl 6 (by decide) (hts _ tw_653) (fun _ h9 => h9) rfl (by decide +kernel) rfl rfl (Nat.le_of_ble_eq_true rfl) dMo_writes_12 (fun H locs hP hD hS => ?_)
  rw [wm_p6] at hP hD
  obtain ⟨I1, eI1⟩ : ∃ z, z = ui I 0 6 (nI (nw + 1)) := ⟨_, rfl⟩
  rw [← eI1] at hP hD
  refine lv_aload_n hx hb dMo_writes_15 rfl (lv_at hl 1 rfl) ?_
  refine va_get (D := (dC, dI)) (ci := 8) (v := .ref (b 5)) (C := RMo) (T := TMo) (N := 27) hx hb hts inMo hown hK hP 0 rfl rfl 16 (by decide) (hts _ tw_663) (fun _ h9 => h9) rfl dMo_writes_16 ?_
  refine lv_iload_n hx hb dMo_writes_19 rfl (lv_at hl 0 rfl) ?_
  refine lv_iload_n hx hb dMo_writes_20 rfl (lv_at hl 2 rfl) ?_
  refine rw_ast_i hx hb hK hP hD hS 5 0 rfl rfl (by omega) (by decide) dMo_writes_21 (fun H locs hP hD hS => ?_)
  rw [wm_a5] at hP hD
  obtain ⟨I2, eI2⟩ : ∃ z, z = ui I1 5 nw (nI f) := ⟨_, rfl⟩
  rw [← eI2] at hP hD
  refine lv_aload_n hx hb dMo_writes_22 rfl (lv_at hl 1 rfl) ?_
  refine va_get (D := (dC, dI)) (ci := 8) (v := .ref (b 6)) (C := RMo) (T := TMo) (N := 27) hx hb hts inMo hown hK hP 0 rfl rfl 17 (by decide) (hts _ tw_664) (fun _ h9 => h9) rfl dMo_writes_23 ?_
  refine lv_iload_n hx hb dMo_writes_26 rfl (lv_at hl 0 rfl) ?_
  refine lv_iload_n hx hb dMo_writes_27 rfl (lv_at hl 3 rfl) ?_
  refine rw_ast_i hx hb hK hP hD hS 6 0 rfl rfl (by omega) (by decide) dMo_writes_28 (fun H locs hP hD hS => ?_)
  rw [wm_a6] at hP hD
  obtain ⟨I3, eI3⟩ : ∃ z, z = ui I2 6 nw (nI m9) := ⟨_, rfl⟩
  rw [← eI3] at hP hD
  refine lv_aload_n hx hb dMo_writes_29 rfl (lv_at hl 1 rfl) ?_
  refine va_get (D := (dC, dI)) (ci := 8) (v := .ref (b 7)) (C := RMo) (T := TMo) (N := 27) hx hb hts inMo hown hK hP 0 rfl rfl 18 (by decide) (hts _ tw_665) (fun _ h9 => h9) rfl dMo_writes_30 ?_
  refine lv_iload_n hx hb dMo_writes_33 rfl (lv_at hl 0 rfl) ?_
  refine lv_iconst (v := (-1)) hx hb dMo_writes_34 (by decide +kernel) ?_
  refine rw_ast_i hx hb hK hP hD hS 7 0 rfl rfl (by omega) (by decide) dMo_writes_35 (fun H locs hP hD hS => ?_)
  rw [wm_a7] at hP hD
  obtain ⟨I4, eI4⟩ : ∃ z, z = ui I3 7 nw (-1) := ⟨_, rfl⟩
  rw [← eI4] at hP hD
  refine lv_aload_n hx hb dMo_writes_36 rfl (lv_at hl 1 rfl) ?_
  refine va_get (D := (dC, dI)) (ci := 8) (v := .ref (b 4)) (C := RMo) (T := TMo) (N := 27) hx hb hts inMo hown hK hP 0 rfl rfl 15 (by decide) (hts _ tw_662) (fun _ h9 => h9) rfl dMo_writes_37 ?_
  refine lv_iload_n hx hb dMo_writes_40 rfl (lv_at hl 0 rfl) ?_
  refine lv_bipush (v := nI 63) hx hb dMo_writes_41 (by decide +kernel) ?_
  refine rw_ast_i hx hb hK hP hD hS 4 0 rfl rfl (by omega) (by decide) dMo_writes_43 (fun H locs hP hD hS => ?_)
  rw [wm_a4] at hP hD
  obtain ⟨I5, eI5⟩ : ∃ z, z = ui I4 4 nw (nI 63) := ⟨_, rfl⟩
  rw [← eI5] at hP hD
  refine lv_aload_n hx hb dMo_writes_44 rfl (lv_at hl 1 rfl) ?_
  refine va_get (D := (dC, dI)) (ci := 8) (v := .ref (b 10)) (C := RMo) (T := TMo) (N := 27) hx hb hts inMo hown hK hP 0 rfl rfl 21 (by decide) (hts _ tw_668) (fun _ h9 => h9) rfl dMo_writes_45 ?_
  refine lv_iload_n hx hb dMo_writes_48 rfl (lv_at hl 0 rfl) ?_
  refine lv_dconst0 hx hb dMo_writes_49 ?_
  refine rw_d (y := 0) rfl ?_
  refine rw_ast_d hx hb hK hP hD hS 10 1 rfl rfl (by omega) (by decide) dMo_writes_50 (fun H locs hP hD hS => ?_)
  rw [wm_a10] at hP hD
  obtain ⟨D6, eD6⟩ : ∃ z, z = ud D 3 nw 0 := ⟨_, rfl⟩
  rw [← eD6] at hP hD
  refine lv_iconst (v := nI 0) hx hb dMo_writes_51 (by decide +kernel) ?_
  refine lv_istore (lv' := [(4, .int (nI 0)), (3, .int (nI nw)), (0, .ref (b 0)), (1, .int (nI f)), (2, .int (nI m9))]) hx hb dMo_writes_52 hl (by decide) rfl (fun ls hl => ?_)
  rw [← us_id D6 4] at hP hD
  have L54 : ∀ (n54 : Nat) (i : Nat) (v : Nat → UInt64), m9 - i < n54 → i ≤ m9 → (∀ z, z < 4 * i → v z = hw_lv (D 1) f z) → ∀ (H : Heap) (locs : List Loc), va_P (dC, dI) vwCl (wm k b I5 (us D6 4 v)) H → va_D A (wm k b I5 (us D6 4 v)) → va_S A s.heap H locs → ∀ ls : Array Slot, lv_has ls 7 [(0, .ref (b 0)), (1, .int (nI f)), (2, .int (nI m9)), (3, .int (nI nw)), (4, .int (nI i))] → W p l e (headSpec wMo_writes ({ frames := 3, cells := 0, slots := 0, locals := 80 })).room s m [.ref (b 0), .int (nI f), .int (nI m9)].toArray below meth c H locs 0 0 Q9 (F0 m 54 ls []) := by
    intro n54
    induction n54 with
    | zero => intro i v hm; exact absurd hm (Nat.not_lt_zero _)
    | succ n54 ih54 =>
      intro i v hm54 hi hv H locs hP hD hS ls hl
      refine lv_iload hx hb dMo_writes_54 (lv_at hl 4 rfl) ?_
      refine lv_iload_n hx hb dMo_writes_56 rfl (lv_at hl 2 rfl) ?_
      refine lv_icmp_ge (tgt := 103) hx hb dMo_writes_57 (by decide) (fun c57 => ?_) (fun c57 => ?_)
      · have c57 : m9 ≤ i := (nI_leI (a := m9) (b := i) (by omega) (by omega)).mp (show nI m9 ≤ nI i from c57)
        refine lv_iconst (v := nI 0) hx hb dMo_writes_103 (by decide +kernel) ?_
        refine lv_istore (lv' := [(4, .int (nI 0)), (0, .ref (b 0)), (1, .int (nI f)), (2, .int (nI m9)), (3, .int (nI nw))]) hx hb dMo_writes_104 hl (by decide) rfl (fun ls hl => ?_)
        have hv : ∀ z, z < 4 * m9 → v z = hw_lv (D 1) f z := fun z hz => hv z (by omega)
        have i5 : ∀ c, c ≠ 0 → c < 4 → I5 c = I c := fun c z0 z4 => by rw [eI5, ui_o _ _ _ (by omega), eI4, ui_o _ _ _ (by omega), eI3, ui_o _ _ _ (by omega), eI2, ui_o _ _ _ (by omega), eI1, ui_o _ _ _ z0]
        have i6 : ∀ c, c ≠ 0 → ∀ z, z ≠ nw → I5 c z = I c z := fun c z0 z zn => by
          have st : ∀ (J : Nat → Nat → Int32) (c2 : Nat) (x : Int32), ui J c2 nw x c z = J c z := fun J c2 x => by by_cases e9 : c = c2; (· subst e9; exact ui_n _ _ _ zn); (· rw [ui_o _ _ _ e9])
          rw [eI5, st, eI4, st, eI3, st, eI2, st, eI1, ui_o _ _ _ z0]
        have i7 : ∀ z, z ≠ 6 → I5 0 z = I 0 z := fun z z6 => by rw [eI5, ui_o _ _ _ (by decide), eI4, ui_o _ _ _ (by decide), eI3, ui_o _ _ _ (by decide), eI2, ui_o _ _ _ (by decide), eI1, ui_n _ _ _ z6]
        have i8 : I5 0 6 = nI (nw + 1) ∧ I5 5 nw = nI f ∧ I5 6 nw = nI m9 ∧ I5 7 nw = -1 ∧ I5 4 nw = nI 63 := ⟨by rw [eI5, ui_o _ _ _ (by decide), eI4, ui_o _ _ _ (by decide), eI3, ui_o _ _ _ (by decide), eI2, ui_o _ _ _ (by decide), eI1, ui_s], by rw [eI5, ui_o _ _ _ (by decide), eI4, ui_o _ _ _ (by decide), eI3, ui_o _ _ _ (by decide), eI2, ui_s], by rw [eI5, ui_o _ _ _ (by decide), eI4, ui_o _ _ _ (by decide), eI3, ui_s], by rw [eI5, ui_o _ _ _ (by decide), eI4, ui_s], by rw [eI5, ui_s]⟩
        have d3 : (∀ z, z ≠ nw → (us D6 4 v) 3 z = D 3 z) ∧ (us D6 4 v) 3 nw = 0 := ⟨fun z zn => by rw [us_o _ _ (by decide), eD6, ud_n _ _ _ zn], by rw [us_o _ _ (by decide), eD6, ud_s]⟩
        have d4 : ∀ c, c ≠ 3 → c ≠ 4 → (us D6 4 v) c = D c := fun c z3 z4 => by rw [us_o _ _ z4, eD6, ud_o _ _ _ z3]
        have L106 : ∀ (n106 : Nat) (kk : Nat) (J : Nat → Nat → Int32) (E : Nat → Nat → UInt64), np - kk < n106 → kk ≤ np → (∀ c, c ≠ 0 → c ≠ 7 → J c = I5 c) → (∀ z, z ≠ 8 → z ≠ 9 → J 0 z = I5 0 z) → (∀ z, z ≠ nw → J 7 z = I5 7 z) → J 7 nw = hr_n W9 kk → (∀ c, c ≠ 3 → c ≠ 5 → c ≠ 6 → E c = (us D6 4 v) c) → (∀ z, z ≠ nw → E 3 z = D 3 z) → E 3 nw = (hr_p W9 kk).2 → ∀ (H : Heap) (locs : List Loc), va_P (dC, dI) vwCl (wm k b J E) H → va_D A (wm k b J E) → va_S A s.heap H locs → ∀ ls : Array Slot, lv_has ls 7 [(0, .ref (b 0)), (1, .int (nI f)), (2, .int (nI m9)), (3, .int (nI nw)), (4, .int (nI kk))] → W p l e (headSpec wMo_writes ({ frames := 3, cells := 0, slots := 0, locals := 80 })).room s m [.ref (b 0), .int (nI f), .int (nI m9)].toArray below meth c H locs 0 0 Q9 (F0 m 106 ls []) := by
          intro n106
          induction n106 with
          | zero => intro kk J E hm; exact absurd hm (Nat.not_lt_zero _)
          | succ n106 ih106 =>
            intro kk J E hm106 hkk hJ hJ0 hJ7a hJ7 hE9 hE3a hE3b H locs hP hD hS ls hl
            refine lv_iload hx hb dMo_writes_106 (lv_at hl 4 rfl) ?_
            refine lv_aload_n hx hb dMo_writes_108 rfl (lv_at hl 0 rfl) ?_
            refine va_get (D := (dC, dI)) (ci := 8) (v := .int (J 0 5)) (C := RMo) (T := TMo) (N := 27) hx hb hts inMo hown hK hP 0 rfl rfl 5 (by decide) (hts _ tw_652) (fun _ h9 => h9) rfl dMo_writes_109 ?_
            refine rw_i (y := nI np) (by rw [hJ0 5 (by decide) (by decide), i7 5 (by decide)]; exact h5) ?_
            refine lv_icmp_ge (tgt := 193) hx hb dMo_writes_112 (by decide) (fun c112 => ?_) (fun c112 => ?_)
            · have c112 : np ≤ kk := (nI_leI (a := np) (b := kk) (by omega) (by omega)).mp (show nI np ≤ nI kk from c112)
              have ek : kk = np := by omega
              rw [ek] at hJ7 hE3b
              refine lv_aload_n hx hb dMo_writes_193 rfl (lv_at hl 0 rfl) ?_
              refine va_get (D := (dC, dI)) (ci := 8) (v := .int (J 0 5)) (C := RMo) (T := TMo) (N := 27) hx hb hts inMo hown hK hP 0 rfl rfl 5 (by decide) (hts _ tw_652) (fun _ h9 => h9) rfl dMo_writes_194 ?_
              refine rw_i (y := nI np) (by rw [hJ0 5 (by decide) (by decide), i7 5 (by decide)]; exact h5) ?_
              refine lv_if_le (tgt := 231) hx hb dMo_writes_197 (by decide) (fun c197 => ?_) (fun c197 => ?_)
              · have c197 : np ≤ 0 := (nI_leI (a := np) (b := 0) (by omega) (by omega)).mp (show nI np ≤ nI 0 from c197)
                have q1 : ∀ z, z ≠ 6 → z ≠ 8 → z ≠ 9 → J 0 z = I 0 z := fun z z6 z8 z9 => by rw [hJ0 z z8 z9, i7 z z6]
                have q2 : J 0 6 = nI (nw + 1) := by rw [hJ0 6 (by decide) (by decide)]; exact i8.1
                have q3 : ∀ c, c ≠ 0 → c < 4 → J c = I c := fun c z0 z4 => by rw [hJ c z0 (by omega), i5 c z0 z4]
                have q4 : ∀ c, c ≠ 0 → ∀ z, z ≠ nw → J c z = I c z := fun c z0 z zn => by by_cases e7 : c = 7; (· subst e7; rw [hJ7a z zn, i6 7 (by decide) z zn]); (· rw [hJ c z0 e7, i6 c z0 z zn])
                have q5 : J 5 nw = nI f := by rw [hJ 5 (by decide) (by decide)]; exact i8.2.1
                have q6 : J 6 nw = nI m9 := by rw [hJ 6 (by decide) (by decide)]; exact i8.2.2.1
                have q7 : J 7 nw = hr_n W9 np := hJ7
                have q8 : J 4 nw = hr_l W9 (I 2) (D 0 1) np := by rw [hJ 4 (by decide) (by decide), i8.2.2.2.2]; unfold hr_l; rw [if_neg (fun z => absurd z.1 (by omega))]
                have q9 : ∀ c, c ≠ 3 → c ≠ 4 → c ≠ 5 → c ≠ 6 → E c = D c := fun c z3 z4 z5 z6 => by rw [hE9 c z3 z5 z6, d4 c z3 z4]
                rw [hQ9]
                exact ct_rv hx hb hr hlocks (J, E) (by rw [hW9]; exact ⟨q1, q2, q3, q4, q5, q6, q7, q8, q9, hE3a, hE3b⟩) hP hD hS (Nat.le_refl _) (Nat.le_refl _) dMo_writes_231
              · have c197 : ¬ np ≤ 0 := fun q9 => c197 (show nI np ≤ nI 0 from (nI_leI (a := np) (b := 0) (by omega) (by omega)).mpr q9)
                refine lv_aload_n hx hb dMo_writes_200 rfl (lv_at hl 0 rfl) ?_
                refine va_get (D := (dC, dI)) (ci := 8) (v := .ref (b 10)) (C := RMo) (T := TMo) (N := 27) hx hb hts inMo hown hK hP 0 rfl rfl 21 (by decide) (hts _ tw_668) (fun _ h9 => h9) rfl dMo_writes_201 ?_
                refine lv_iload_n hx hb dMo_writes_204 rfl (lv_at hl 3 rfl) ?_
                refine rw_ald_d hx hb hK hP 10 1 rfl rfl (by omega) (by decide) dMo_writes_205 ?_
                refine rw_d (y := (hr_p W9 np).2) hE3b ?_
                refine lv_aload_n hx hb dMo_writes_206 rfl (lv_at hl 0 rfl) ?_
                refine va_get (D := (dC, dI)) (ci := 8) (v := .double (E 0 1)) (C := RMo) (T := TMo) (N := 27) hx hb hts inMo hown hK hP 0 rfl rfl 11 (by decide) (hts _ tw_658) (fun _ h9 => h9) rfl dMo_writes_207 ?_
                refine rw_d (y := D 0 1) (by rw [hE9 0 (by decide) (by decide) (by decide), d4 0 (by decide) (by decide)]) ?_
                refine lv_dcmp hx hb dMo_writes_210 ?_
                refine lv_if_gt (tgt := 231) hx hb dMo_writes_211 (by decide) (fun c211 => ?_) (fun c211 => ?_)
                · have cm : ¬ (FP.dcmp (hr_p W9 np).2 (D 0 1) = some .lt ∨ FP.dcmp (hr_p W9 np).2 (D 0 1) = some .eq) := fun z => Int32.not_le.mpr c211 ((fc_le_g _).mpr z)
                  have q1 : ∀ z, z ≠ 6 → z ≠ 8 → z ≠ 9 → J 0 z = I 0 z := fun z z6 z8 z9 => by rw [hJ0 z z8 z9, i7 z z6]
                  have q2 : J 0 6 = nI (nw + 1) := by rw [hJ0 6 (by decide) (by decide)]; exact i8.1
                  have q3 : ∀ c, c ≠ 0 → c < 4 → J c = I c := fun c z0 z4 => by rw [hJ c z0 (by omega), i5 c z0 z4]
                  have q4 : ∀ c, c ≠ 0 → ∀ z, z ≠ nw → J c z = I c z := fun c z0 z zn => by by_cases e7 : c = 7; (· subst e7; rw [hJ7a z zn, i6 7 (by decide) z zn]); (· rw [hJ c z0 e7, i6 c z0 z zn])
                  have q5 : J 5 nw = nI f := by rw [hJ 5 (by decide) (by decide)]; exact i8.2.1
                  have q6 : J 6 nw = nI m9 := by rw [hJ 6 (by decide) (by decide)]; exact i8.2.2.1
                  have q7 : J 7 nw = hr_n W9 np := hJ7
                  have q8 : J 4 nw = hr_l W9 (I 2) (D 0 1) np := by rw [hJ 4 (by decide) (by decide), i8.2.2.2.2]; unfold hr_l; rw [if_neg (fun z => cm z.2)]
                  have q9 : ∀ c, c ≠ 3 → c ≠ 4 → c ≠ 5 → c ≠ 6 → E c = D c := fun c z3 z4 z5 z6 => by rw [hE9 c z3 z5 z6, d4 c z3 z4]
                  rw [hQ9]
                  exact ct_rv hx hb hr hlocks (J, E) (by rw [hW9]; exact ⟨q1, q2, q3, q4, q5, q6, q7, q8, q9, hE3a, hE3b⟩) hP hD hS (Nat.le_refl _) (Nat.le_refl _) dMo_writes_231
                · have cm : FP.dcmp (hr_p W9 np).2 (D 0 1) = some .lt ∨ FP.dcmp (hr_p W9 np).2 (D 0 1) = some .eq := (fc_le_g _).mp (Int32.not_lt.mp c211)
                  refine lv_aload_n hx hb dMo_writes_214 rfl (lv_at hl 0 rfl) ?_
                  refine va_get (D := (dC, dI)) (ci := 8) (v := .ref (b 4)) (C := RMo) (T := TMo) (N := 27) hx hb hts inMo hown hK hP 0 rfl rfl 15 (by decide) (hts _ tw_662) (fun _ h9 => h9) rfl dMo_writes_215 ?_
                  refine lv_iload_n hx hb dMo_writes_218 rfl (lv_at hl 3 rfl) ?_
                  refine lv_aload_n hx hb dMo_writes_219 rfl (lv_at hl 0 rfl) ?_
                  refine va_get (D := (dC, dI)) (ci := 8) (v := .ref (b 2)) (C := RMo) (T := TMo) (N := 27) hx hb hts inMo hown hK hP 0 rfl rfl 13 (by decide) (hts _ tw_660) (fun _ h9 => h9) rfl dMo_writes_220 ?_
                  refine lv_aload_n hx hb dMo_writes_223 rfl (lv_at hl 0 rfl) ?_
                  refine va_get (D := (dC, dI)) (ci := 8) (v := .ref (b 7)) (C := RMo) (T := TMo) (N := 27) hx hb hts inMo hown hK hP 0 rfl rfl 18 (by decide) (hts _ tw_665) (fun _ h9 => h9) rfl dMo_writes_224 ?_
                  refine lv_iload_n hx hb dMo_writes_227 rfl (lv_at hl 3 rfl) ?_
                  refine rw_ald_i hx hb hK hP 7 0 rfl rfl (by omega) (by decide) dMo_writes_228 ?_
                  refine rw_i (y := nI ((hr_p W9 np).1)) (hJ7.trans (if_neg (by omega))) ?_
                  refine rw_ald_i hx hb hK hP 2 0 rfl rfl (by have := hr_lt W9 np (by omega); omega) (by decide) dMo_writes_229 ?_
                  refine rw_i (y := I 2 (hr_p W9 np).1) (by rw [hJ 2 (by decide) (by decide), i5 2 (by decide) (by decide)]) ?_
                  refine rw_ast_i hx hb hK hP hD hS 4 0 rfl rfl (by omega) (by decide) dMo_writes_230 (fun H locs hP hD hS => ?_)
                  rw [wm_a4] at hP hD
                  obtain ⟨I7, eI7⟩ : ∃ z, z = ui J 4 nw (I 2 (hr_p W9 np).1) := ⟨_, rfl⟩
                  rw [← eI7] at hP hD
                  have q1 : ∀ z, z ≠ 6 → z ≠ 8 → z ≠ 9 → I7 0 z = I 0 z := fun z z6 z8 z9 => by rw [eI7, ui_o _ _ _ (by decide), hJ0 z z8 z9, i7 z z6]
                  have q2 : I7 0 6 = nI (nw + 1) := by rw [eI7, ui_o _ _ _ (by decide), hJ0 6 (by decide) (by decide)]; exact i8.1
                  have q3 : ∀ c, c ≠ 0 → c < 4 → I7 c = I c := fun c z0 z4 => by rw [eI7, ui_o _ _ _ (by omega), hJ c z0 (by omega), i5 c z0 z4]
                  have q4 : ∀ c, c ≠ 0 → ∀ z, z ≠ nw → I7 c z = I c z := fun c z0 z zn => by by_cases e4 : c = 4; (· subst e4; rw [eI7, ui_n _ _ _ zn, hJ 4 (by decide) (by decide), i6 4 (by decide) z zn]); (· rw [eI7, ui_o _ _ _ e4]; by_cases e7 : c = 7; (· subst e7; rw [hJ7a z zn, i6 7 (by decide) z zn]); (· rw [hJ c z0 e7, i6 c z0 z zn]))
                  have q5 : I7 5 nw = nI f := by rw [eI7, ui_o _ _ _ (by decide), hJ 5 (by decide) (by decide)]; exact i8.2.1
                  have q6 : I7 6 nw = nI m9 := by rw [eI7, ui_o _ _ _ (by decide), hJ 6 (by decide) (by decide)]; exact i8.2.2.1
                  have q7 : I7 7 nw = hr_n W9 np := by rw [eI7, ui_o _ _ _ (by decide), hJ7]
                  have q8 : I7 4 nw = hr_l W9 (I 2) (D 0 1) np := by rw [eI7, ui_s]; unfold hr_l; rw [if_pos ⟨by omega, cm⟩]
                  have q9 : ∀ c, c ≠ 3 → c ≠ 4 → c ≠ 5 → c ≠ 6 → E c = D c := fun c z3 z4 z5 z6 => by rw [hE9 c z3 z5 z6, d4 c z3 z4]
                  rw [hQ9]
                  exact ct_rv hx hb hr hlocks (I7, E) (by rw [hW9]; exact ⟨q1, q2, q3, q4, q5, q6, q7, q8, q9, hE3a, hE3b⟩) hP hD hS (Nat.le_refl _) (Nat.le_refl _) dMo_writes_231
            · have c112 : ¬ np ≤ kk := fun q9 => c112 (show nI np ≤ nI kk from (nI_leI (a := np) (b := kk) (by omega) (by omega)).mpr q9)
              refine lv_aload_n hx hb dMo_writes_115 rfl (lv_at hl 0 rfl) ?_
              refine lv_aload_n hx hb dMo_writes_116 rfl (lv_at hl 0 rfl) ?_
              refine va_get (D := (dC, dI)) (ci := 8) (v := .ref (b 12)) (C := RMo) (T := TMo) (N := 27) hx hb hts inMo hown hK hP 0 rfl rfl 23 (by decide) (hts _ tw_670) (fun _ h9 => h9) rfl dMo_writes_117 ?_
              refine lv_iload hx hb dMo_writes_120 (lv_at hl 4 rfl) ?_
              refine ct_v (va_runV (As := [.ref (b 12), .int (nI kk)]) (rest := []) ⟨hx, hb, hml, hown, hts⟩ (kMo_takes2 l dC dI k b J E _ kk (by omega)) (cwV 2 hts (gw_V tw_838 tw_840 sl_Mo_takes tw_9 tw_841) rfl rfl rfl (by decide +kernel) ⟨Nat.le_of_ble_eq_true rfl, Nat.le_of_ble_eq_true rfl⟩) ⟨ct_blind (ev := fun _ => True) (fun _ _ _ _ h => h), va_recv hK hP (ci := 8) (q0 := 0) rfl rfl, ct_now (ev := fun _ => True) (fun _ _ _ => trivial) hP hK hD⟩ rfl rfl hl.1 rfl (lv_room (Nat.le_of_ble_eq_true rfl)) dMo_writes_122 ⟨Nat.le_of_ble_eq_true rfl, Nat.le_of_ble_eq_true rfl⟩) hD hS hA (fun u8 H locs hw8 hP hD hS => ?_)
              have t5 := hw8
              obtain ⟨E5, eE5⟩ : ∃ z, z = us E 5 u8 := ⟨_, rfl⟩
              rw [← eE5] at hP hD
              refine lv_aload_n hx hb dMo_writes_125 rfl (lv_at hl 0 rfl) ?_
              refine lv_iload_n hx hb dMo_writes_126 rfl (lv_at hl 2 rfl) ?_
              refine va_put (D := (dC, dI)) (ci := 8) (fs := mo_f b J E5) (v := .int (nI m9)) (ty := .int) (C := RMo) (T := TMo) (N := 27) hx hb hts inMo tyMo tyMo_ok nmMo hown hK hP hD hS 0 rfl rfl 8 (by decide) (hts _ tw_655) (fun _ h9 => h9) rfl (by decide +kernel) rfl rfl (Nat.le_of_ble_eq_true rfl) dMo_writes_127 (fun H locs hP hD hS => ?_)
              rw [wm_p8] at hP hD
              obtain ⟨I9, eI9⟩ : ∃ z, z = ui J 0 8 (nI m9) := ⟨_, rfl⟩
              rw [← eI9] at hP hD
              refine lv_aload_n hx hb dMo_writes_130 rfl (lv_at hl 0 rfl) ?_
              refine lv_aload_n hx hb dMo_writes_131 rfl (lv_at hl 0 rfl) ?_
              refine va_get (D := (dC, dI)) (ci := 8) (v := .ref (b 3)) (C := RMo) (T := TMo) (N := 27) hx hb hts inMo hown hK hP 0 rfl rfl 14 (by decide) (hts _ tw_661) (fun _ h9 => h9) rfl dMo_writes_132 ?_
              refine lv_iload hx hb dMo_writes_135 (lv_at hl 4 rfl) ?_
              refine rw_ald_i hx hb hK hP 3 0 rfl rfl (by omega) (by decide) dMo_writes_137 ?_
              refine rw_i (y := J 3 kk) (by rw [eI9, ui_o _ _ _ (by decide)]) ?_
              refine rw_i (y := nI (rw9 kk)) (by rw [hJ 3 (by decide) (by decide), i5 3 (by decide) (by decide)]; exact (hr9 kk (by omega)).1) ?_
              refine va_put (D := (dC, dI)) (ci := 8) (fs := mo_f b I9 E5) (v := .int (nI (rw9 kk))) (ty := .int) (C := RMo) (T := TMo) (N := 27) hx hb hts inMo tyMo tyMo_ok nmMo hown hK hP hD hS 0 rfl rfl 9 (by decide) (hts _ tw_656) (fun _ h9 => h9) rfl (by decide +kernel) rfl rfl (Nat.le_of_ble_eq_true rfl) dMo_writes_138 (fun H locs hP hD hS => ?_)
              rw [wm_p9] at hP hD
              obtain ⟨I10, eI10⟩ : ∃ z, z = ui I9 0 9 (nI (rw9 kk)) := ⟨_, rfl⟩
              rw [← eI10] at hP hD
              refine lv_aload_n hx hb dMo_writes_141 rfl (lv_at hl 0 rfl) ?_
              refine ct_d (va_runV (As := []) (rest := []) ⟨hx, hb, hml, hown, hts⟩ (kMo_warps l dC dI k b I10 E5 _ m9 (rw9 kk) g1 g2 (hr9 kk (by omega)).2.1 (hr9 kk (by omega)).2.2 (by rw [eI10, ui_n _ _ _ (by decide), eI9, ui_s]) (by rw [eI10, ui_s]) (fun q hq => by rw [eE5, us_o _ _ (by decide), hE9 4 (by decide) (by decide) (by decide), us_c, hv q (by omega)]; exact hw_lv_b hsm hf hq) (fun q hq => by have := (hr9 kk (by omega)).2.2; rw [eE5, us_c, t5 q (by omega), hE9 2 (by decide) (by decide) (by decide), us_o _ _ (by decide), eD6, ud_o _ _ _ (by decide)]; exact hl9 kk (by omega) q hq)) (cwV 0 hts (gw_V tw_842 tw_844 sl_Mo_warps tw_9 tw_845) rfl rfl rfl (by decide +kernel) ⟨Nat.le_of_ble_eq_true rfl, Nat.le_of_ble_eq_true rfl⟩) ⟨ct_blind (ev := fun _ => True) (fun _ _ _ _ h => h), va_recv hK hP (ci := 8) (q0 := 0) rfl rfl, ct_now (ev := fun _ => True) (fun _ _ _ => trivial) hP hK hD⟩ rfl rfl hl.1 rfl (lv_room (Nat.le_of_ble_eq_true rfl)) dMo_writes_142 ⟨Nat.le_of_ble_eq_true rfl, Nat.le_of_ble_eq_true rfl⟩) hD hS hA (fun r11 u11 H locs hw11 hP hD hS => ?_)
              have w1 : r11 = W9 kk := by
                rw [hw11, hWk]
                refine hw_wa_g (fun q hq => ?_) (fun q hq => ?_) g1 (hr9 kk (by omega)).2.1
                · rw [eE5, us_o _ _ (by decide), hE9 4 (by decide) (by decide) (by decide), us_c, hv q (by omega)]
                · have := (hr9 kk (by omega)).2.2; rw [eE5, us_c, t5 q (by omega), hE9 2 (by decide) (by decide) (by decide), us_o _ _ (by decide), eD6, ud_o _ _ _ (by decide)]
              clear hw11
              subst w1
              obtain ⟨E6, eE6⟩ : ∃ z, z = us E5 6 u11 := ⟨_, rfl⟩
              rw [← eE6] at hP hD
              refine lv_dstore (lv' := [(5, .double (W9 kk)), (0, .ref (b 0)), (1, .int (nI f)), (2, .int (nI m9)), (3, .int (nI nw)), (4, .int (nI kk))]) hx hb dMo_writes_145 hl (by decide) rfl (fun ls hl => ?_)
              refine lv_aload_n hx hb dMo_writes_147 rfl (lv_at hl 1 rfl) ?_
              refine va_get (D := (dC, dI)) (ci := 8) (v := .ref (b 7)) (C := RMo) (T := TMo) (N := 27) hx hb hts inMo hown hK hP 0 rfl rfl 18 (by decide) (hts _ tw_665) (fun _ h9 => h9) rfl dMo_writes_148 ?_
              refine lv_iload_n hx hb dMo_writes_151 rfl (lv_at hl 4 rfl) ?_
              refine rw_ald_i hx hb hK hP 7 0 rfl rfl (by omega) (by decide) dMo_writes_152 ?_
              refine rw_i (y := J 7 nw) (by rw [eI10, ui_o _ _ _ (by decide), eI9, ui_o _ _ _ (by decide)]) ?_
              refine rw_i (y := hr_n W9 kk) hJ7 ?_
              by_cases k0 : kk = 0
              · refine rw_i (y := (-1)) (by rw [k0]; rfl) ?_
                refine lv_if_lt (tgt := 171) hx hb dMo_writes_153 (by decide) (fun c153 => ?_) (fun c153 => ?_)
                · refine lv_aload_n hx hb dMo_writes_171 rfl (lv_at hl 1 rfl) ?_
                  refine va_get (D := (dC, dI)) (ci := 8) (v := .ref (b 7)) (C := RMo) (T := TMo) (N := 27) hx hb hts inMo hown hK hP 0 rfl rfl 18 (by decide) (hts _ tw_665) (fun _ h9 => h9) rfl dMo_writes_172 ?_
                  refine lv_iload_n hx hb dMo_writes_175 rfl (lv_at hl 4 rfl) ?_
                  refine lv_iload hx hb dMo_writes_176 (lv_at hl 5 rfl) ?_
                  refine rw_ast_i hx hb hK hP hD hS 7 0 rfl rfl (by omega) (by decide) dMo_writes_178 (fun H locs hP hD hS => ?_)
                  rw [wm_a7] at hP hD
                  obtain ⟨I12, eI12⟩ : ∃ z, z = ui I10 7 nw (nI kk) := ⟨_, rfl⟩
                  rw [← eI12] at hP hD
                  refine lv_aload_n hx hb dMo_writes_179 rfl (lv_at hl 1 rfl) ?_
                  refine va_get (D := (dC, dI)) (ci := 8) (v := .ref (b 10)) (C := RMo) (T := TMo) (N := 27) hx hb hts inMo hown hK hP 0 rfl rfl 21 (by decide) (hts _ tw_668) (fun _ h9 => h9) rfl dMo_writes_180 ?_
                  refine lv_iload_n hx hb dMo_writes_183 rfl (lv_at hl 4 rfl) ?_
                  refine lv_dload hx hb dMo_writes_184 (lv_at hl 0 rfl) ?_
                  refine rw_ast_d hx hb hK hP hD hS 10 1 rfl rfl (by omega) (by decide) dMo_writes_186 (fun H locs hP hD hS => ?_)
                  rw [wm_a10] at hP hD
                  obtain ⟨D13, eD13⟩ : ∃ z, z = ud E6 3 nw (W9 kk) := ⟨_, rfl⟩
                  rw [← eD13] at hP hD
                  refine lv_iinc (v := nI (kk + 1)) (lv' := [(4, .int (nI (kk + 1))), (5, .double (W9 kk)), (0, .ref (b 0)), (1, .int (nI f)), (2, .int (nI m9)), (3, .int (nI nw))]) hx hb dMo_writes_187 hl (k := 5) rfl (nI_1 _) (by decide) rfl (fun ls hl => ?_)
                  refine lv_goto (tgt := 106) hx hb dMo_writes_190 (by decide) ?_
                  have a1 : ∀ c, c ≠ 0 → c ≠ 7 → I12 c = I5 c := fun c z0 z7 => by rw [eI12, ui_o _ _ _ z7, eI10, ui_o _ _ _ z0, eI9, ui_o _ _ _ z0]; exact hJ c z0 z7
                  have a2 : ∀ z, z ≠ 8 → z ≠ 9 → I12 0 z = I5 0 z := fun z z8 z9 => by rw [eI12, ui_o _ _ _ (by decide), eI10, ui_n _ _ _ z9, eI9, ui_n _ _ _ z8]; exact hJ0 z z8 z9
                  have a3 : ∀ z, z ≠ nw → I12 7 z = I5 7 z := fun z zn => by rw [eI12, ui_n _ _ _ zn, eI10, ui_o _ _ _ (by decide), eI9, ui_o _ _ _ (by decide)]; exact hJ7a z zn
                  have b1 : ∀ c, c ≠ 3 → c ≠ 5 → c ≠ 6 → D13 c = (us D6 4 v) c := fun c z3 z5 z6 => by rw [eD13, ud_o _ _ _ z3, eE6, us_o _ _ z6, eE5, us_o _ _ z5]; exact hE9 c z3 z5 z6
                  have b2 : ∀ z, z ≠ nw → D13 3 z = D 3 z := fun z zn => by rw [eD13, ud_n _ _ _ zn, eE6, us_o _ _ (by decide), eE5, us_o _ _ (by decide)]; exact hE3a z zn
                  have hrp := hr_pos (W := W9) (k := kk) (Or.inl k0)
                  have a4 : I12 7 nw = hr_n W9 (kk + 1) := by rw [eI12, ui_s]; unfold hr_n; rw [if_neg (by omega), hrp]
                  have b3 : D13 3 nw = (hr_p W9 (kk + 1)).2 := by rw [eD13, ud_s, hrp]
                  exact ih106 (kk + 1) I12 D13 (by omega) (by omega) a1 a2 a3 a4 b1 b2 b3 _ _ hP hD hS ls (lv_sub hl [2, 3, 4, 5, 0] rfl)
                · exact absurd (by decide) c153
              · refine rw_i (y := nI ((hr_p W9 kk).1)) (if_neg k0) ?_
                refine lv_if_lt (tgt := 171) hx hb dMo_writes_153 (by decide) (fun c153 => ?_) (fun c153 => ?_)
                · exact absurd (show nI ((hr_p W9 kk).1) < 0 from c153) (nI_pos (by have := hr_lt W9 kk (by omega); omega))
                · refine lv_dload hx hb dMo_writes_156 (lv_at hl 0 rfl) ?_
                  refine lv_aload_n hx hb dMo_writes_158 rfl (lv_at hl 1 rfl) ?_
                  refine va_get (D := (dC, dI)) (ci := 8) (v := .ref (b 10)) (C := RMo) (T := TMo) (N := 27) hx hb hts inMo hown hK hP 0 rfl rfl 21 (by decide) (hts _ tw_668) (fun _ h9 => h9) rfl dMo_writes_159 ?_
                  refine lv_iload_n hx hb dMo_writes_162 rfl (lv_at hl 4 rfl) ?_
                  refine rw_ald_d hx hb hK hP 10 1 rfl rfl (by omega) (by decide) dMo_writes_163 ?_
                  refine rw_d (y := (hr_p W9 kk).2) (by rw [eE6, us_o _ _ (by decide), eE5, us_o _ _ (by decide)]; exact hE3b) ?_
                  refine lv_dcmp hx hb dMo_writes_164 ?_
                  refine lv_if_lt (tgt := 171) hx hb dMo_writes_165 (by decide) (fun c165 => ?_) (fun c165 => ?_)
                  · have cl : FP.dcmp (W9 kk) (hr_p W9 kk).2 = some .lt := (fc_lt_g _).mp c165
                    refine lv_aload_n hx hb dMo_writes_171 rfl (lv_at hl 1 rfl) ?_
                    refine va_get (D := (dC, dI)) (ci := 8) (v := .ref (b 7)) (C := RMo) (T := TMo) (N := 27) hx hb hts inMo hown hK hP 0 rfl rfl 18 (by decide) (hts _ tw_665) (fun _ h9 => h9) rfl dMo_writes_172 ?_
                    refine lv_iload_n hx hb dMo_writes_175 rfl (lv_at hl 4 rfl) ?_
                    refine lv_iload hx hb dMo_writes_176 (lv_at hl 5 rfl) ?_
                    refine rw_ast_i hx hb hK hP hD hS 7 0 rfl rfl (by omega) (by decide) dMo_writes_178 (fun H locs hP hD hS => ?_)
                    rw [wm_a7] at hP hD
                    obtain ⟨I14, eI14⟩ : ∃ z, z = ui I10 7 nw (nI kk) := ⟨_, rfl⟩
                    rw [← eI14] at hP hD
                    refine lv_aload_n hx hb dMo_writes_179 rfl (lv_at hl 1 rfl) ?_
                    refine va_get (D := (dC, dI)) (ci := 8) (v := .ref (b 10)) (C := RMo) (T := TMo) (N := 27) hx hb hts inMo hown hK hP 0 rfl rfl 21 (by decide) (hts _ tw_668) (fun _ h9 => h9) rfl dMo_writes_180 ?_
                    refine lv_iload_n hx hb dMo_writes_183 rfl (lv_at hl 4 rfl) ?_
                    refine lv_dload hx hb dMo_writes_184 (lv_at hl 0 rfl) ?_
                    refine rw_ast_d hx hb hK hP hD hS 10 1 rfl rfl (by omega) (by decide) dMo_writes_186 (fun H locs hP hD hS => ?_)
                    rw [wm_a10] at hP hD
                    obtain ⟨D15, eD15⟩ : ∃ z, z = ud E6 3 nw (W9 kk) := ⟨_, rfl⟩
                    rw [← eD15] at hP hD
                    refine lv_iinc (v := nI (kk + 1)) (lv' := [(4, .int (nI (kk + 1))), (5, .double (W9 kk)), (0, .ref (b 0)), (1, .int (nI f)), (2, .int (nI m9)), (3, .int (nI nw))]) hx hb dMo_writes_187 hl (k := 5) rfl (nI_1 _) (by decide) rfl (fun ls hl => ?_)
                    refine lv_goto (tgt := 106) hx hb dMo_writes_190 (by decide) ?_
                    have a1 : ∀ c, c ≠ 0 → c ≠ 7 → I14 c = I5 c := fun c z0 z7 => by rw [eI14, ui_o _ _ _ z7, eI10, ui_o _ _ _ z0, eI9, ui_o _ _ _ z0]; exact hJ c z0 z7
                    have a2 : ∀ z, z ≠ 8 → z ≠ 9 → I14 0 z = I5 0 z := fun z z8 z9 => by rw [eI14, ui_o _ _ _ (by decide), eI10, ui_n _ _ _ z9, eI9, ui_n _ _ _ z8]; exact hJ0 z z8 z9
                    have a3 : ∀ z, z ≠ nw → I14 7 z = I5 7 z := fun z zn => by rw [eI14, ui_n _ _ _ zn, eI10, ui_o _ _ _ (by decide), eI9, ui_o _ _ _ (by decide)]; exact hJ7a z zn
                    have b1 : ∀ c, c ≠ 3 → c ≠ 5 → c ≠ 6 → D15 c = (us D6 4 v) c := fun c z3 z5 z6 => by rw [eD15, ud_o _ _ _ z3, eE6, us_o _ _ z6, eE5, us_o _ _ z5]; exact hE9 c z3 z5 z6
                    have b2 : ∀ z, z ≠ nw → D15 3 z = D 3 z := fun z zn => by rw [eD15, ud_n _ _ _ zn, eE6, us_o _ _ (by decide), eE5, us_o _ _ (by decide)]; exact hE3a z zn
                    have hrp := hr_pos (W := W9) (k := kk) (Or.inr cl)
                    have a4 : I14 7 nw = hr_n W9 (kk + 1) := by rw [eI14, ui_s]; unfold hr_n; rw [if_neg (by omega), hrp]
                    have b3 : D15 3 nw = (hr_p W9 (kk + 1)).2 := by rw [eD15, ud_s, hrp]
                    exact ih106 (kk + 1) I14 D15 (by omega) (by omega) a1 a2 a3 a4 b1 b2 b3 _ _ hP hD hS ls (lv_sub hl [2, 3, 4, 5, 0] rfl)
                  · have cl : ¬ FP.dcmp (W9 kk) (hr_p W9 kk).2 = some .lt := (fc_ge_g _).mp (Int32.not_lt.mp c165)
                    refine lv_goto (tgt := 187) hx hb dMo_writes_168 (by decide) ?_
                    refine lv_iinc (v := nI (kk + 1)) (lv' := [(4, .int (nI (kk + 1))), (5, .double (W9 kk)), (0, .ref (b 0)), (1, .int (nI f)), (2, .int (nI m9)), (3, .int (nI nw))]) hx hb dMo_writes_187 hl (k := 5) rfl (nI_1 _) (by decide) rfl (fun ls hl => ?_)
                    refine lv_goto (tgt := 106) hx hb dMo_writes_190 (by decide) ?_
                    have a1 : ∀ c, c ≠ 0 → c ≠ 7 → I10 c = I5 c := fun c z0 z7 => by rw [eI10, ui_o _ _ _ z0, eI9, ui_o _ _ _ z0]; exact hJ c z0 z7
                    have a2 : ∀ z, z ≠ 8 → z ≠ 9 → I10 0 z = I5 0 z := fun z z8 z9 => by rw [eI10, ui_n _ _ _ z9, eI9, ui_n _ _ _ z8]; exact hJ0 z z8 z9
                    have a3 : ∀ z, z ≠ nw → I10 7 z = I5 7 z := fun z zn => by rw [eI10, ui_o _ _ _ (by decide), eI9, ui_o _ _ _ (by decide)]; exact hJ7a z zn
                    have b1 : ∀ c, c ≠ 3 → c ≠ 5 → c ≠ 6 → E6 c = (us D6 4 v) c := fun c z3 z5 z6 => by rw [eE6, us_o _ _ z6, eE5, us_o _ _ z5]; exact hE9 c z3 z5 z6
                    have b2 : ∀ z, z ≠ nw → E6 3 z = D 3 z := fun z zn => by rw [eE6, us_o _ _ (by decide), eE5, us_o _ _ (by decide)]; exact hE3a z zn
                    have hrp := hr_neg (W := W9) (k := kk) (fun z => z.elim k0 cl)
                    have a4 : I10 7 nw = hr_n W9 (kk + 1) := by rw [eI10, ui_o _ _ _ (by decide), eI9, ui_o _ _ _ (by decide), hJ7]; unfold hr_n; rw [if_neg k0, if_neg (by omega), hrp]
                    have b3 : E6 3 nw = (hr_p W9 (kk + 1)).2 := by rw [eE6, us_o _ _ (by decide), eE5, us_o _ _ (by decide), hE3b, hrp]
                    exact ih106 (kk + 1) I10 E6 (by omega) (by omega) a1 a2 a3 a4 b1 b2 b3 _ _ hP hD hS ls (lv_sub hl [2, 3, 4, 5, 0] rfl)
        exact L106 _ 0 I5 (us D6 4 v) (Nat.lt_succ_self _) (by omega) (fun c z0 z7 => rfl) (fun z z8 z9 => rfl) (fun z zn => rfl) i8.2.2.2.1 (fun c z3 z5 z6 => rfl) d3.1 d3.2 _ _ hP hD hS ls (lv_sub hl [1, 2, 3, 4, 0] rfl)
      · have c57 : ¬ m9 ≤ i := fun q9 => c57 (show nI m9 ≤ nI i from (nI_leI (a := m9) (b := i) (by omega) (by omega)).mpr q9)
        refine lv_iconst (v := nI 0) hx hb dMo_writes_60 (by decide +kernel) ?_
        refine lv_istore (lv' := [(5, .int (nI 0)), (0, .ref (b 0)), (1, .int (nI f)), (2, .int (nI m9)), (3, .int (nI nw)), (4, .int (nI i))]) hx hb dMo_writes_61 hl (by decide) rfl (fun ls hl => ?_)
        have L63 : ∀ (n63 : Nat) (j : Nat) (v : Nat → UInt64), 4 - j < n63 → j ≤ 4 → (∀ z, z < 4 * i + j → v z = hw_lv (D 1) f z) → ∀ (H : Heap) (locs : List Loc), va_P (dC, dI) vwCl (wm k b I5 (us D6 4 v)) H → va_D A (wm k b I5 (us D6 4 v)) → va_S A s.heap H locs → ∀ ls : Array Slot, lv_has ls 7 [(0, .ref (b 0)), (1, .int (nI f)), (2, .int (nI m9)), (3, .int (nI nw)), (4, .int (nI i)), (5, .int (nI j))] → W p l e (headSpec wMo_writes ({ frames := 3, cells := 0, slots := 0, locals := 80 })).room s m [.ref (b 0), .int (nI f), .int (nI m9)].toArray below meth c H locs 0 0 Q9 (F0 m 63 ls []) := by
          intro n63
          induction n63 with
          | zero => intro j v hm; exact absurd hm (Nat.not_lt_zero _)
          | succ n63 ih63 =>
            intro j v hm63 hj hv H locs hP hD hS ls hl
            refine lv_iload hx hb dMo_writes_63 (lv_at hl 5 rfl) ?_
            refine lv_iconst (v := nI 4) hx hb dMo_writes_65 (by decide +kernel) ?_
            refine lv_icmp_ge (tgt := 97) hx hb dMo_writes_66 (by decide) (fun c66 => ?_) (fun c66 => ?_)
            · have c66 : 4 ≤ j := (nI_leI (a := 4) (b := j) (by omega) (by omega)).mp (show nI 4 ≤ nI j from c66)
              refine lv_iinc (v := nI (i + 1)) (lv' := [(4, .int (nI (i + 1))), (0, .ref (b 0)), (1, .int (nI f)), (2, .int (nI m9)), (3, .int (nI nw)), (5, .int (nI j))]) hx hb dMo_writes_97 hl (k := 4) rfl (nI_1 _) (by decide) rfl (fun ls hl => ?_)
              refine lv_goto (tgt := 54) hx hb dMo_writes_100 (by decide) ?_
              exact ih54 (i + 1) v (by omega) (by omega) (fun z hz => hv z (by omega)) _ _ hP hD hS ls (lv_sub hl [1, 2, 3, 4, 0] rfl)
            · have c66 : ¬ 4 ≤ j := fun q9 => c66 (show nI 4 ≤ nI j from (nI_leI (a := 4) (b := j) (by omega) (by omega)).mpr q9)
              refine lv_aload_n hx hb dMo_writes_69 rfl (lv_at hl 0 rfl) ?_
              refine va_get (D := (dC, dI)) (ci := 8) (v := .ref (b 11)) (C := RMo) (T := TMo) (N := 27) hx hb hts inMo hown hK hP 0 rfl rfl 22 (by decide) (hts _ tw_669) (fun _ h9 => h9) rfl dMo_writes_70 ?_
              refine lv_iconst (v := nI 4) hx hb dMo_writes_73 (by decide +kernel) ?_
              refine lv_iload hx hb dMo_writes_74 (lv_at hl 4 rfl) ?_
              refine lv_imul hx hb dMo_writes_76 ?_
              refine rw_i (y := nI (4 * i)) (pk_mul _ _) ?_
              refine lv_iload hx hb dMo_writes_77 (lv_at hl 5 rfl) ?_
              refine lv_iadd hx hb dMo_writes_79 ?_
              refine rw_i (y := nI ((4 * i) + j)) (nI_add _ _) ?_
              refine lv_aload_n hx hb dMo_writes_80 rfl (lv_at hl 0 rfl) ?_
              refine lv_iload_n hx hb dMo_writes_81 rfl (lv_at hl 1 rfl) ?_
              refine lv_iload hx hb dMo_writes_82 (lv_at hl 4 rfl) ?_
              refine lv_iadd hx hb dMo_writes_84 ?_
              refine rw_i (y := nI (f + i)) (nI_add _ _) ?_
              refine lv_iload hx hb dMo_writes_85 (lv_at hl 5 rfl) ?_
              have hfi := nf_lt (n := ns) (j := f + i) (by omega)
              refine ct_d (va_runV (As := [.int (nI (f + i)), .int (nI j)]) (rest := [.int (nI ((4 * i) + j)), .ref (b 11)]) ⟨hx, hb, hml, hown, hts⟩ (kMo_levelOf l dC dI k b I5 (us D6 4 v) _ (f + i) j (by omega) (by omega) (fun z hz => by rw [us_o _ _ (by decide), eD6, ud_o _ _ _ (by decide)]; exact hsm _ (by omega)) (fun z hz => by rw [us_o _ _ (by decide), eD6, ud_o _ _ _ (by decide)]; exact hc z hz) (fun z hz => by rw [us_o _ _ (by decide), eD6, ud_o _ _ _ (by decide)]; exact hsn z hz)) (cwV 2 hts (gw_V tw_804 tw_806 sl_Mo_levelOf tw_9 tw_807) rfl rfl rfl (by decide +kernel) ⟨Nat.le_of_ble_eq_true rfl, Nat.le_of_ble_eq_true rfl⟩) ⟨ct_blind (ev := fun _ => True) (fun _ _ _ _ h => h), va_recv hK hP (ci := 8) (q0 := 0) rfl rfl, ct_now (ev := fun _ => True) (fun _ _ _ => trivial) hP hK hD⟩ rfl rfl hl.1 rfl (lv_room (Nat.le_of_ble_eq_true rfl)) dMo_writes_87 ⟨Nat.le_of_ble_eq_true rfl, Nat.le_of_ble_eq_true rfl⟩) hD hS hA (fun r16 u16 H locs hw16 hP hD hS => ?_)
              rw [us_o _ _ (by decide), eD6, ud_o _ _ _ (by decide)] at hw16
              subst hw16
              refine rw_d (y := hw_lv (D 1) f (4 * i + j)) (hw_lv_e _ _ _ _ (by omega)) ?_
              refine rw_ast_d hx hb hK hP hD hS 11 1 rfl rfl (by omega) (by decide) dMo_writes_90 (fun H locs hP hD hS => ?_)
              rw [wm_a11] at hP hD
              obtain ⟨D17, eD17⟩ : ∃ z, z = ud (us D6 4 v) 4 ((4 * i) + j) (hw_lv (D 1) f (4 * i + j)) := ⟨_, rfl⟩
              rw [← eD17] at hP hD
              refine lv_iinc (v := nI (j + 1)) (lv' := [(5, .int (nI (j + 1))), (0, .ref (b 0)), (1, .int (nI f)), (2, .int (nI m9)), (3, .int (nI nw)), (4, .int (nI i))]) hx hb dMo_writes_91 hl (k := 5) rfl (nI_1 _) (by decide) rfl (fun ls hl => ?_)
              refine lv_goto (tgt := 63) hx hb dMo_writes_94 (by decide) ?_
              rw [eD17, ud_us] at hP hD
              exact ih63 (j + 1) (vf_upd v (4 * i + j) (hw_lv (D 1) f (4 * i + j))) (by omega) (by omega) (fun z hz => fill_1 hv rfl z (by omega)) _ _ hP hD hS ls (lv_sub hl [1, 2, 3, 4, 5, 0] rfl)
        exact L63 _ 0 v (Nat.lt_succ_self _) (by omega) (fun z hz => hv z (by omega)) _ _ hP hD hS ls (lv_sub hl [1, 2, 3, 4, 5, 0] rfl)
  exact L54 _ 0 (D6 4) (Nat.lt_succ_self _) (by omega) (fun z hz => absurd hz (by omega)) _ _ hP hD hS ls (lv_sub hl [2, 3, 4, 1, 0] rfl)
