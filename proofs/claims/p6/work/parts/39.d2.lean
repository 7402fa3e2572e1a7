set_option maxHeartbeats 4000000 in
set_option maxRecDepth 100000 in
theorem kNu_finite (l : Launch) (dC : Nat → ClassId) (dI : Nat → Nat → Nat) (k : Nat → ClassId) (b P : Nat → Nat) (I : Nat → Nat → Int32) (D : Nat → Nat → UInt64) (sz : Nat) (x : UInt64) (hx9 : fb_ 2047 x) : Met l yNu_finite wNu_finite ({ frames := 0, cells := 0, slots := 0, locals := 0 }) (va_Pc [.double x] (ct_pre (dC, dI) (de_ty k) (fun _ => True) ([]) sz)) (va_Qd (fun r (_ : Unit) => r = x) (fun u t => ct_at (dC, dI) (va_A ([]) sz) ((fun _ => []) u) t) (va_A ([]) sz)) 0 0 (va_A ([]) sz) := by
  refine Met.ofW (cc := cNu_finite) (maxL := 2) (ret := (some .double)) (by decide) rfl ?_
  intro p e s m args below meth c s₁ B hml hv
  obtain ⟨rfl, hsz, hP, hK, hD0, hE⟩ := hv
  have hx := B.exec
  have hb := B.bytes
  have hr := B.returns
  have hts : ∀ w ∈ W0, w.before [.double x].toArray s = true := fun w h => atoms_spec (ws := wNu_finite) B.pre w (List.mem_cons_of_mem _ h)
  have hown : s.vm.findClass RNu = some m.cls := findClass_of_methodNamed B.named
  have hlocks := B.notSynchronized
  subst hsz
  have hP0 := hP
  have hD := hD0.self (sz := s.heap.size)
  generalize hAe : va_A ([]) s.heap.size = A at hD ⊢
  have hA : ∀ q : Nat, s.heap.size ≤ q → A q := fun q h => by rw [← hAe]; exact Or.inr h
  have hS : va_S A s.heap s.heap [] := va_S.rf
  have hl := lv_entry ([.double x]) (n := 2) (Nat.le_of_ble_eq_true rfl)
  rw [lg_entry_eq]
  generalize (lg_sl ([.double x]) ++ List.replicate (2 - (lg_sl ([.double x])).length) Slot.unset).toArray = ls at hl ⊢
  have hl : lv_has ls 2 [(0, .double x)] := hl
  refine lv_dload_n hx hb dNu_finite_0 rfl (lv_at hl 0 rfl) ?_
  refine lv_dload_n hx hb dNu_finite_1 rfl (lv_at hl 0 rfl) ?_
  refine lv_dcmp hx hb dNu_finite_2 ?_
  refine lv_if_eq (tgt := 8) hx hb dNu_finite_3 (by decide) (fun c3 => ?_) (fun c3 => ?_)
  · refine lv_dload_n hx hb dNu_finite_8 rfl (lv_at hl 0 rfl) ?_
    refine lv_ldc2d (v := 9218868437227405311) hx hb hown (hts _ tw_429) dNu_finite_9 ?_
    refine lv_dcmp hx hb dNu_finite_12 ?_
    refine lv_if_le (tgt := 20) hx hb dNu_finite_13 (by decide) (fun c13 => ?_) (fun c13 => ?_)
    · refine lv_dload_n hx hb dNu_finite_20 rfl (lv_at hl 0 rfl) ?_
      refine lv_ldc2d (v := 18442240474082181119) hx hb hown (hts _ tw_430) dNu_finite_21 ?_
      refine lv_dcmp hx hb dNu_finite_24 ?_
      refine lv_if_ge (tgt := 34) hx hb dNu_finite_25 (by decide) (fun c25 => ?_) (fun c25 => ?_)
      · refine lv_dload_n hx hb dNu_finite_34 rfl (lv_at hl 0 rfl) ?_
        exact ct_rd hx hb hr hlocks () rfl hP hD hS (Nat.le_refl _) (Nat.le_refl _) dNu_finite_35
      · exact absurd ((fc_ge_g _).mpr (ff_lt hx9)) c25
    · exact absurd ((fc_le_l _).mpr (ff_gt hx9)) c13
  · exact absurd ((fc_eq_l _).mpr (ff_eq hx9)) c3
set_option maxHeartbeats 4000000 in
set_option maxRecDepth 100000 in
theorem kNu_swing (l : Launch) (dC : Nat → ClassId) (dI : Nat → Nat → Nat) (k : Nat → ClassId) (b P : Nat → Nat) (I : Nat → Nat → Int32) (D : Nat → Nat → UInt64) (sz : Nat) (x y : UInt64) (hx9 : fb_ 2047 x) (hn9 : vf_n64 (FP.dmul x y)) : Met l yNu_swing wNu_swing ({ frames := 1, cells := 0, slots := 0, locals := 21 }) (va_Pc [.double x, .double y] (ct_pre (dC, dI) (de_ty k) (fun _ => True) ([]) sz)) (va_Qd (fun r (_ : Unit) => r = FP.dmul x y) (fun u t => ct_at (dC, dI) (va_A ([]) sz) ((fun _ => []) u) t) (va_A ([]) sz)) 0 0 (va_A ([]) sz) := by
  refine Met.ofW (cc := cNu_swing) (maxL := 4) (ret := (some .double)) (by decide) rfl ?_
  intro p e s m args below meth c s₁ B hml hv
  obtain ⟨rfl, hsz, hP, hK, hD0, hE⟩ := hv
  have hx := B.exec
  have hb := B.bytes
  have hr := B.returns
  have hts : ∀ w ∈ W0, w.before [.double x, .double y].toArray s = true := fun w h => atoms_spec (ws := wNu_swing) B.pre w (List.mem_cons_of_mem _ h)
  have hown : s.vm.findClass RNu = some m.cls := findClass_of_methodNamed B.named
  have hlocks := B.notSynchronized
  subst hsz
  have hP0 := hP
  have hD := hD0.self (sz := s.heap.size)
  generalize hAe : va_A ([]) s.heap.size = A at hD ⊢
  have hA : ∀ q : Nat, s.heap.size ≤ q → A q := fun q h => by rw [← hAe]; exact Or.inr h
  have hS : va_S A s.heap s.heap [] := va_S.rf
  have hl := lv_entry ([.double x, .double y]) (n := 4) (Nat.le_of_ble_eq_true rfl)
  rw [lg_entry_eq]
  generalize (lg_sl ([.double x, .double y]) ++ List.replicate (4 - (lg_sl ([.double x, .double y])).length) Slot.unset).toArray = ls at hl ⊢
  have hl : lv_has ls 4 [(0, .double x), (2, .double y)] := hl
  refine lv_dload_n hx hb dNu_swing_0 rfl (lv_at hl 0 rfl) ?_
  refine lv_dload_n hx hb dNu_swing_1 rfl (lv_at hl 0 rfl) ?_
  refine lv_dcmp hx hb dNu_swing_2 ?_
  refine lv_if_eq (tgt := 8) hx hb dNu_swing_3 (by decide) (fun c3 => ?_) (fun c3 => ?_)
  · refine lv_dload_n hx hb dNu_swing_8 rfl (lv_at hl 1 rfl) ?_
    refine lv_dconst0 hx hb dNu_swing_9 ?_
    refine rw_d (y := 0) rfl ?_
    refine lv_dcmp hx hb dNu_swing_10 ?_
    refine lv_if_ne (tgt := 23) hx hb dNu_swing_11 (by decide) (fun c11 => ?_) (fun c11 => ?_)
    · refine lv_dload_n hx hb dNu_swing_23 rfl (lv_at hl 0 rfl) ?_
      refine lv_dload_n hx hb dNu_swing_24 rfl (lv_at hl 1 rfl) ?_
      refine lv_dmul hx hb dNu_swing_25 hn9 ?_
      exact ct_rd hx hb hr hlocks () rfl hP hD hS (Nat.le_refl _) (Nat.le_refl _) dNu_swing_26
    · refine lv_dload_n hx hb dNu_swing_14 rfl (lv_at hl 0 rfl) ?_
      have hP : va_P (dC, dI) vwCl ([] ++ ([] ++ ([]))) _ := hP
      have hD : va_D A ([] ++ ([] ++ ([]))) := hD
      refine sg_d (va_runS (As := [.double x]) (rest := []) ⟨hx, hb, hml, hown, hts⟩ (kNu_finite l dC dI k b P I D _ x hx9) (va_cwS 1 hts (gw_S tw_426 tw_427 tw_15 tw_428) rfl rfl rfl (by decide +kernel) ⟨Nat.le_of_ble_eq_true rfl, Nat.le_of_ble_eq_true rfl⟩) ⟨ct_blind (ev := fun _ => True) (fun _ _ _ _ h => h), ct_now (A := A) (ev := fun _ => True) (fun _ _ _ => trivial) (sg_Pc hP) hK (sg_Dc hD)⟩ rfl rfl hl.1 rfl (lv_room (Nat.le_of_ble_eq_true rfl)) dNu_swing_15 ⟨Nat.le_of_ble_eq_true rfl, Nat.le_of_ble_eq_true rfl⟩) hP hD hS hA (fun r1 u1 H locs hw1 hP hD hS => ?_)
      have hP : va_P (dC, dI) vwCl ([]) H := hP
      have hD : va_D A ([]) := hD
      subst hw1
      refine lv_dload_n hx hb dNu_swing_18 rfl (lv_at hl 1 rfl) ?_
      refine lv_dmul hx hb dNu_swing_19 hn9 ?_
      refine lv_goto (tgt := 26) hx hb dNu_swing_20 (by decide) ?_
      exact ct_rd hx hb hr hlocks () rfl hP hD hS (Nat.le_refl _) (Nat.le_refl _) dNu_swing_26
  · exact absurd ((fc_eq_l _).mpr (ff_eq hx9)) c3
set_option maxHeartbeats 4000000 in
set_option maxRecDepth 100000 in
theorem kDe_octets (l : Launch) (hln : l.stackTraces = false) (dC : Nat → ClassId) (dI : Nat → Nat → Nat) (k : Nat → ClassId) (b P : Nat → Nat) (I : Nat → Nat → Int32) (D : Nat → Nat → UInt64) (sz : Nat) (n : Int32) (Wv f : Nat) (hW : Wv < 2 ^ 64) (hf : f ≤ 400) (h3 : I 0 3 = nI f) : ex_Met l yDe_octets wDe_octets ({ frames := 6, cells := 1, slots := 6, locals := 82 }) (va_Pc [.ref (b 0), .int n, .long (lN Wv)] (ct_pre (dC, dI) (de_ty k) ev_D (wd k b P I D) sz)) (va_Qi (fun r (u : Nat → Nat → Int32) => ∃ q, 1 ≤ q ∧ q ≤ 8 ∧ n = nI q ∧ f + q ≤ 400 ∧ r = nI (f + q) ∧ u = ui (fi_wr I 1 f Wv q) 0 3 (nI (f + q))) (fun u t => ct_at (dC, dI) (va_A (wd k b P I D) sz) ((fun u => wd k b P u D) u) t) (va_A (wd k b P I D) sz)) (ct_X (dC, dI) (va_A (wd k b P I D) sz) (fun E (u : Nat → Nat → Int32) => u = I ∧ ((E = th_IA ∧ ¬ ∃ q, 1 ≤ q ∧ q ≤ 8 ∧ n = nI q) ∨ (E = th_IO ∧ ∃ q, 1 ≤ q ∧ q ≤ 8 ∧ n = nI q ∧ 400 < f + q))) (fun u => wd k b P u D)) 1 6 (va_A (wd k b P I D) sz) := by
  refine ex_met (cc := cDe_octets) (maxL := 5) (ret := (some .int)) (by decide) rfl ?_
  intro p e s m args below meth c s₁ B hml htab hv
  obtain ⟨rfl, hsz, hP, hK, hD0, hE⟩ := hv
  have hx := B.exec
  have hb := B.bytes
  have hr := B.returns
  have hts : ∀ w ∈ W0, w.before [.ref (b 0), .int n, .long (lN Wv)].toArray s = true := fun w h => atoms_spec (ws := wDe_octets) B.pre w (List.mem_cons_of_mem _ h)
  have hown : s.vm.findClass RDe = some m.cls := findClass_of_methodNamed B.named
  have hlocks := B.notSynchronized
  subst hsz
  have hP0 := hP
  have hD := hD0.self (sz := s.heap.size)
  generalize hAe : va_A (wd k b P I D) s.heap.size = A at hD ⊢
  have hA : ∀ q : Nat, s.heap.size ≤ q → A q := fun q h => by rw [← hAe]; exact Or.inr h
  have hS : va_S A s.heap s.heap [] := va_S.rf
  have hl := lv_entry ([.ref (b 0), .int n, .long (lN Wv)]) (n := 5) (Nat.le_of_ble_eq_true rfl)
  rw [lg_entry_eq]
  generalize (lg_sl ([.ref (b 0), .int n, .long (lN Wv)]) ++ List.replicate (5 - (lg_sl ([.ref (b 0), .int n, .long (lN Wv)])).length) Slot.unset).toArray = ls at hl ⊢
  have hl : lv_has ls 5 [(0, .ref (b 0)), (1, .int n), (2, .long (lN Wv))] := hl
  refine lp_q (fun Q9 hQ9 => ?_)
  refine lv_iload_n hx hb dDe_octets_0 rfl (lv_at hl 1 rfl) ?_
  refine lv_iconst (v := nI 1) hx hb dDe_octets_1 (by decide +kernel) ?_
  refine lv_icmp_lt (tgt := 11) hx hb dDe_octets_2 (by decide) (fun c2 => ?_) (fun c2 => ?_)
  · rw [hQ9]
    exact th_throw hx hb hln (cls := th_IA) (text := "1 to 8 octets come at once") hown hP0 hAe hts hE.2 (by decide +kernel) t3_67_69 th_IA_w (hl.1.trans hml.symm) htab dDe_octets_11 dDe_octets_14 dDe_octets_15 dDe_octets_17 dDe_octets_20 hlocks I (⟨rfl, Or.inl ⟨rfl, by first | (exact dn_lo (by decide) (by decide) c2) | (exact dn_hi (by decide) c8)⟩⟩) hP hD hS (Nat.le_of_ble_eq_true rfl) (Nat.le_of_ble_eq_true rfl) (Nat.le_of_ble_eq_true rfl) (Nat.le_of_ble_eq_true rfl) (Nat.le_refl _) (Nat.le_refl _)
  · refine lv_iload_n hx hb dDe_octets_5 rfl (lv_at hl 1 rfl) ?_
    refine lv_bipush (v := nI 8) hx hb dDe_octets_6 (by decide +kernel) ?_
    refine lv_icmp_le (tgt := 21) hx hb dDe_octets_8 (by decide) (fun c8 => ?_) (fun c8 => ?_)
    · obtain ⟨q, q1, q2, rfl⟩ := dn_in (by decide) (by decide) c2 c8
      refine lv_aload_n hx hb dDe_octets_21 rfl (lv_at hl 0 rfl) ?_
      refine va_get (D := (dC, dI)) (ci := 7) (v := .ref (b 1)) (C := RDe) (T := TDe) (N := 10) hx hb hts inDe hown hK hP 0 rfl rfl 0 (by decide) (hts _ tw_192) (fun _ h9 => h9) rfl dDe_octets_22 ?_
      refine va_getN (D := (dC, dI)) (ci := 4) (v := .int (I 0 3)) (C := RFi) (T := TFi) (N := 2) hx hb hts inFi hown hK hP 1 rfl rfl 1 (by decide) (va_Nw.use rfl (hE.1 _ en_35)) (fun _ h9 => h9) rfl dDe_octets_25 ?_
      refine rw_i (y := nI f) h3 ?_
      refine lv_iload_n hx hb dDe_octets_28 rfl (lv_at hl 1 rfl) ?_
      refine lv_iadd hx hb dDe_octets_29 ?_
      refine rw_i (y := nI (f + q)) (nI_add _ _) ?_
      refine lv_sipush (v := nI 400) hx hb dDe_octets_30 (by decide +kernel) ?_
      refine lv_icmp_le (tgt := 46) hx hb dDe_octets_33 (by decide) (fun c33 => ?_) (fun c33 => ?_)
      · have c33 : (f + q) ≤ 400 := (nI_leI (a := (f + q)) (b := 400) (by omega) (by omega)).mp (show nI (f + q) ≤ nI 400 from c33)
        refine lv_iconst (v := nI 0) hx hb dDe_octets_46 (by decide +kernel) ?_
        refine lv_istore (lv' := [(4, .int (nI 0)), (0, .ref (b 0)), (1, .int (nI q)), (2, .long (lN Wv))]) hx hb dDe_octets_47 hl (by decide) rfl (fun ls hl => ?_)
        have hP : va_P (dC, dI) vwCl (wd k b P (ui (fi_wr I 1 f Wv 0) 0 3 (nI (f + 0))) D) s.heap := by rw [ui_id (show fi_wr I 1 f Wv 0 0 3 = nI (f + 0) from h3)]; exact hP
        have hD : va_D A (wd k b P (ui (fi_wr I 1 f Wv 0) 0 3 (nI (f + 0))) D) := by rw [ui_id (show fi_wr I 1 f Wv 0 0 3 = nI (f + 0) from h3)]; exact hD
        have L49 : ∀ (n49 : Nat) (j : Nat), q - j < n49 → j ≤ q → ∀ (H : Heap) (locs : List Loc), va_P (dC, dI) vwCl (wd k b P (ui (fi_wr I 1 f Wv j) 0 3 (nI (f + j))) D) H → va_D A (wd k b P (ui (fi_wr I 1 f Wv j) 0 3 (nI (f + j))) D) → va_S A s.heap H locs → ∀ ls : Array Slot, lv_has ls 5 [(0, .ref (b 0)), (1, .int (nI q)), (2, .long (lN Wv)), (4, .int (nI j))] → W p l e (headSpec wDe_octets ({ frames := 6, cells := 1, slots := 6, locals := 82 })).room s m [.ref (b 0), .int (nI q), .long (lN Wv)].toArray below meth c H locs 0 0 Q9 (F0 m 49 ls []) := by
          intro n49
          induction n49 with
          | zero => intro j hm; exact absurd hm (Nat.not_lt_zero _)
          | succ n49 ih49 =>
            intro j hm49 hj H locs hP hD hS ls hl
            refine lv_iload hx hb dDe_octets_49 (lv_at hl 3 rfl) ?_
            refine lv_iload_n hx hb dDe_octets_51 rfl (lv_at hl 1 rfl) ?_
            refine lv_icmp_ge (tgt := 80) hx hb dDe_octets_52 (by decide) (fun c52 => ?_) (fun c52 => ?_)
            · have c52 : q ≤ j := (nI_leI (a := q) (b := j) (by omega) (by omega)).mp (show nI q ≤ nI j from c52)
              obtain rfl : j = q := by omega
              refine lv_aload_n hx hb dDe_octets_80 rfl (lv_at hl 0 rfl) ?_
              refine va_get (D := (dC, dI)) (ci := 7) (v := .ref (b 1)) (C := RDe) (T := TDe) (N := 10) hx hb hts inDe hown hK hP 0 rfl rfl 0 (by decide) (hts _ tw_192) (fun _ h9 => h9) rfl dDe_octets_81 ?_
              refine va_getN (D := (dC, dI)) (ci := 4) (v := .int ((ui (fi_wr I 1 f Wv j) 0 3 (nI (f + j))) 0 3)) (C := RFi) (T := TFi) (N := 2) hx hb hts inFi hown hK hP 1 rfl rfl 1 (by decide) (va_Nw.use rfl (hE.1 _ en_35)) (fun _ h9 => h9) rfl dDe_octets_84 ?_
              refine rw_i (y := nI (f + j)) (ui_s _ _ _ _) ?_
              rw [hQ9]
              exact ex_ret (ct_ri hx hb hr hlocks (ui (fi_wr I 1 f Wv j) 0 3 (nI (f + j))) (⟨j, q1, q2, rfl, by omega, rfl, rfl⟩) hP hD hS (Nat.zero_le _) (Nat.zero_le _) dDe_octets_87)
            · have c52 : ¬ q ≤ j := fun q9 => c52 (show nI q ≤ nI j from (nI_leI (a := q) (b := j) (by omega) (by omega)).mpr q9)
              refine lv_aload_n hx hb dDe_octets_55 rfl (lv_at hl 0 rfl) ?_
              refine va_get (D := (dC, dI)) (ci := 7) (v := .ref (b 1)) (C := RDe) (T := TDe) (N := 10) hx hb hts inDe hown hK hP 0 rfl rfl 0 (by decide) (hts _ tw_192) (fun _ h9 => h9) rfl dDe_octets_56 ?_
              refine lv_lload_n hx hb dDe_octets_59 rfl (lv_at hl 2 rfl) ?_
              refine lv_bipush (v := nI 8) hx hb dDe_octets_60 (by decide +kernel) ?_
              refine lv_iload hx hb dDe_octets_62 (lv_at hl 3 rfl) ?_
              refine lv_imul hx hb dDe_octets_64 ?_
              refine rw_i (y := nI (8 * j)) (pk_mul _ _) ?_
              refine lv_lushr (v := lN (Wv / 2 ^ (8 * j))) hx hb dDe_octets_65 (oc_shr hW (by omega)) ?_
              refine lv_l2i (v := nI (Wv / 2 ^ (8 * j))) hx hb dDe_octets_66 (lN_i _) ?_
              refine lv_sipush (v := nI 255) hx hb dDe_octets_67 (by decide +kernel) ?_
              refine lv_iand hx hb dDe_octets_70 ?_
              refine rw_i (y := nI (oc_w Wv j)) oc_i ?_
              refine ct_v (va_runV (As := [.int (nI (oc_w Wv j))]) (rest := []) ⟨hx, hb, hml, hown, hts⟩ (kFi_append l dC dI k b P (ui (fi_wr I 1 f Wv j) 0 3 (nI (f + j))) D _ (nI (oc_w Wv j)) (f + j) (by omega) (ui_s _ _ _ _)) (cwV 1 hts (gw_V tw_333 tw_334 tw_335 tw_2 tw_336) rfl rfl rfl (by decide +kernel) ⟨Nat.le_of_ble_eq_true rfl, Nat.le_of_ble_eq_true rfl⟩) ⟨ct_blind (ev := (fun _ => True)) (fun _ _ _ _ h => h), va_recv hK hP (ci := 4) (q0 := 1) rfl rfl, ct_now (ev := (fun _ => True)) (fun _ _ _ => trivial) hP hK hD⟩ rfl rfl hl.1 rfl (lv_room (Nat.le_of_ble_eq_true rfl)) dDe_octets_71 ⟨Nat.le_of_ble_eq_true rfl, Nat.le_of_ble_eq_true rfl⟩) hD hS hA (fun u1 H locs hw1 hP hD hS => ?_)
              subst hw1
              refine lv_iinc (v := nI (j + 1)) (lv' := [(4, .int (nI (j + 1))), (0, .ref (b 0)), (1, .int (nI q)), (2, .long (lN Wv))]) hx hb dDe_octets_74 hl (k := 3) rfl (nI_1 _) (by decide) rfl (fun ls hl => ?_)
              refine lv_goto (tgt := 49) hx hb dDe_octets_77 (by decide) ?_
              rw [ui_ov _ _ _ _ (by decide)] at hP hD
              exact ih49 (j + 1) (by omega) (by omega) _ _ hP hD hS ls (lv_sub hl [1, 2, 3, 0] rfl)
        exact L49 _ 0 (Nat.lt_succ_self _) (by omega) _ _ hP hD hS ls (lv_sub hl [1, 2, 3, 0] rfl)
      · have c33 : ¬ (f + q) ≤ 400 := fun q9 => c33 (show nI (f + q) ≤ nI 400 from (nI_leI (a := (f + q)) (b := 400) (by omega) (by omega)).mpr q9)
        rw [hQ9]
        exact th_throw hx hb hln (cls := th_IO) (text := "a file has up to 400 octets") hown hP0 hAe hts hE.2 (by decide +kernel) t3_77_79 th_IO_w (hl.1.trans hml.symm) htab dDe_octets_36 dDe_octets_39 dDe_octets_40 dDe_octets_42 dDe_octets_45 hlocks I (⟨rfl, Or.inr ⟨rfl, q, q1, q2, rfl, by omega⟩⟩) hP hD hS (Nat.le_of_ble_eq_true rfl) (Nat.le_of_ble_eq_true rfl) (Nat.le_of_ble_eq_true rfl) (Nat.le_of_ble_eq_true rfl) (Nat.le_refl _) (Nat.le_refl _)
    · rw [hQ9]
      exact th_throw hx hb hln (cls := th_IA) (text := "1 to 8 octets come at once") hown hP0 hAe hts hE.2 (by decide +kernel) t3_67_69 th_IA_w (hl.1.trans hml.symm) htab dDe_octets_11 dDe_octets_14 dDe_octets_15 dDe_octets_17 dDe_octets_20 hlocks I (⟨rfl, Or.inl ⟨rfl, by first | (exact dn_lo (by decide) (by decide) c2) | (exact dn_hi (by decide) c8)⟩⟩) hP hD hS (Nat.le_of_ble_eq_true rfl) (Nat.le_of_ble_eq_true rfl) (Nat.le_of_ble_eq_true rfl) (Nat.le_of_ble_eq_true rfl) (Nat.le_refl _) (Nat.le_refl _)
set_option maxHeartbeats 4000000 in
set_option maxRecDepth 100000 in
theorem kDe_read0 (l : Launch) (hln : l.stackTraces = false) (dC : Nat → ClassId) (dI : Nat → Nat → Nat) (k : Nat → ClassId) (b P : Nat → Nat) (I : Nat → Nat → Int32) (D : Nat → Nat → UInt64) (sz : Nat) (n : Nat) (hn : n < 44) (h3 : I 0 3 = nI n) : ex_Met l yDe_read wDe_read ({ frames := 6, cells := 1, slots := 6, locals := 82 }) (va_Pc [.ref (b 0)] (ct_pre (dC, dI) (de_ty k) ev_D (wd k b P I D) sz)) (va_Qi (fun _ (_ : Nat → Nat → Int32) => False) (fun u t => ct_at (dC, dI) (va_A (wd k b P I D) sz) ((fun u => wd k b P u D) u) t) (va_A (wd k b P I D) sz)) (ct_X (dC, dI) (va_A (wd k b P I D) sz) (fun E (u : Nat → Nat → Int32) => E = th_IA ∧ u = ui (ui I 0 1 (nI n)) 0 3 (nI 0)) (fun u => wd k b P u D)) 1 6 (va_A (wd k b P I D) sz) := by
  refine ex_met (cc := cDe_read) (maxL := 3) (ret := (some .int)) (by decide) rfl ?_
  intro p e s m args below meth c s₁ B hml htab hv
  obtain ⟨rfl, hsz, hP, hK, hD0, hE⟩ := hv
  have hx := B.exec
  have hb := B.bytes
  have hr := B.returns
  have hts : ∀ w ∈ W0, w.before [.ref (b 0)].toArray s = true := fun w h => atoms_spec (ws := wDe_read) B.pre w (List.mem_cons_of_mem _ h)
  have hown : s.vm.findClass RDe = some m.cls := findClass_of_methodNamed B.named
  have hlocks := B.notSynchronized
  subst hsz
  have hP0 := hP
  have hD := hD0.self (sz := s.heap.size)
  generalize hAe : va_A (wd k b P I D) s.heap.size = A at hD ⊢
  have hA : ∀ q : Nat, s.heap.size ≤ q → A q := fun q h => by rw [← hAe]; exact Or.inr h
  have hS : va_S A s.heap s.heap [] := va_S.rf
  have hl := lv_entry ([.ref (b 0)]) (n := 3) (Nat.le_of_ble_eq_true rfl)
  rw [lg_entry_eq]
  generalize (lg_sl ([.ref (b 0)]) ++ List.replicate (3 - (lg_sl ([.ref (b 0)])).length) Slot.unset).toArray = ls at hl ⊢
  have hl : lv_has ls 3 [(0, .ref (b 0))] := hl
  refine lv_aload_n hx hb dDe_read_0 rfl (lv_at hl 0 rfl) ?_
  refine lv_aload_n hx hb dDe_read_1 rfl (lv_at hl 0 rfl) ?_
  refine va_get (D := (dC, dI)) (ci := 7) (v := .ref (b 1)) (C := RDe) (T := TDe) (N := 10) hx hb hts inDe hown hK hP 0 rfl rfl 0 (by decide) (hts _ tw_192) (fun _ h9 => h9) rfl dDe_read_2 ?_
  refine ct_i (va_runV (As := []) (rest := [.ref (b 0)]) ⟨hx, hb, hml, hown, hts⟩ (kFi_firstWrong0 l dC dI k b P I D _ n hn h3) (cwV 0 hts (gw_V tw_344 tw_345 tw_346 tw_2 tw_347) rfl rfl rfl (by decide +kernel) ⟨Nat.le_of_ble_eq_true rfl, Nat.le_of_ble_eq_true rfl⟩) ⟨ct_blind (ev := (fun _ => True)) (fun _ _ _ _ h => h), va_recv hK hP (ci := 4) (q0 := 1) rfl rfl, ct_now (ev := (fun _ => True)) (fun _ _ _ => trivial) hP hK hD⟩ rfl rfl hl.1 rfl (lv_room (Nat.le_of_ble_eq_true rfl)) dDe_read_5 ⟨Nat.le_of_ble_eq_true rfl, Nat.le_of_ble_eq_true rfl⟩) hD hS hA (fun r1 u1 H locs hw1 hP hD hS => ?_)
  subst hw1
  refine va_put (D := (dC, dI)) (ci := 7) (fs := de_f b I D) (v := .int (nI n)) (ty := .int) (C := RDe) (T := TDe) (N := 10) hx hb hts inDe tyDe tyDe_ok nmDe hown hK hP hD hS 0 rfl rfl 6 (by decide) (hts _ tw_198) (fun _ h9 => h9) rfl (by decide +kernel) rfl rfl (Nat.le_of_ble_eq_true rfl) dDe_read_8 (fun H locs hP hD hS => ?_)
  rw [wd_p0_6] at hP hD
  obtain ⟨I2, eI2⟩ : ∃ z, z = ui I 0 1 (nI n) := ⟨_, rfl⟩
  rw [← eI2] at hP hD
  refine lv_aload_n hx hb dDe_read_11 rfl (lv_at hl 0 rfl) ?_
  refine va_get (D := (dC, dI)) (ci := 7) (v := .int (I2 0 1)) (C := RDe) (T := TDe) (N := 10) hx hb hts inDe hown hK hP 0 rfl rfl 6 (by decide) (hts _ tw_198) (fun _ h9 => h9) rfl dDe_read_12 ?_
  refine rw_i (y := nI n) (by rw [eI2, ui_s]) ?_
  refine lv_iconst (v := (-1)) hx hb dDe_read_15 (by decide +kernel) ?_
  refine lv_icmp_eq (tgt := 36) hx hb dDe_read_16 (by decide) (fun c16 => ?_) (fun c16 => ?_)
  · exact absurd c16 (rd_ne (by omega))
  · refine lv_aload_n hx hb dDe_read_19 rfl (lv_at hl 0 rfl) ?_
    refine va_get (D := (dC, dI)) (ci := 7) (v := .ref (b 1)) (C := RDe) (T := TDe) (N := 10) hx hb hts inDe hown hK hP 0 rfl rfl 0 (by decide) (hts _ tw_192) (fun _ h9 => h9) rfl dDe_read_20 ?_
    refine ct_v (va_runV (As := []) (rest := []) ⟨hx, hb, hml, hown, hts⟩ (kFi_empty l dC dI k b P I2 D _ ) (cwV 0 hts (gw_V tw_388 tw_389 tw_390 tw_2 tw_391) rfl rfl rfl (by decide +kernel) ⟨Nat.le_of_ble_eq_true rfl, Nat.le_of_ble_eq_true rfl⟩) ⟨ct_blind (ev := (fun _ => True)) (fun _ _ _ _ h => h), va_recv hK hP (ci := 4) (q0 := 1) rfl rfl, ct_now (ev := (fun _ => True)) (fun _ _ _ => trivial) hP hK hD⟩ rfl rfl hl.1 rfl (lv_room (Nat.le_of_ble_eq_true rfl)) dDe_read_23 ⟨Nat.le_of_ble_eq_true rfl, Nat.le_of_ble_eq_true rfl⟩) hD hS hA (fun u3 H locs hw3 hP hD hS => ?_)
    have eu3 := hw3
    exact th_throw hx hb hln (cls := th_IA) (text := "this is no file of samples") hown hP0 hAe hts hE.2 (by decide +kernel) t3_67_93 th_IA_w (hl.1.trans hml.symm) htab dDe_read_26 dDe_read_29 dDe_read_30 dDe_read_32 dDe_read_35 hlocks u3 (⟨rfl, by rw [eu3, eI2]⟩) hP hD hS (Nat.le_of_ble_eq_true rfl) (Nat.le_of_ble_eq_true rfl) (Nat.le_of_ble_eq_true rfl) (Nat.le_of_ble_eq_true rfl) (Nat.le_refl _) (Nat.le_refl _)
set_option maxHeartbeats 4000000 in
set_option maxRecDepth 100000 in
theorem kDe_clear (l : Launch) (dC : Nat → ClassId) (dI : Nat → Nat → Nat) (k : Nat → ClassId) (b P : Nat → Nat) (I : Nat → Nat → Int32) (D : Nat → Nat → UInt64) (sz : Nat) (n : Nat) (h4 : I 0 4 = nI n) : Met l yDe_clear wDe_clear ({ frames := 1, cells := 0, slots := 0, locals := 20 }) (va_Pc [.ref (b 0)] (ct_pre (dC, dI) (de_ty k) ev_N (wd k b P I D) sz)) (va_Qi (fun r (u : Nat → Nat → Int32) => r = nI n ∧ u = ui (ui (ui I 0 4 (nI 0)) 0 5 (nI 0)) 0 7 (nI 0)) (fun u t => ct_at (dC, dI) (va_A (wd k b P I D) sz) ((fun u => wd k b P u D) u) t) (va_A (wd k b P I D) sz)) 0 0 (va_A (wd k b P I D) sz) := by
  refine Met.ofW (cc := cDe_clear) (maxL := 2) (ret := (some .int)) (by decide) rfl ?_
  intro p e s m args below meth c s₁ B hml hv
  obtain ⟨rfl, hsz, hP, hK, hD0, hE⟩ := hv
  have hx := B.exec
  have hb := B.bytes
  have hr := B.returns
  have hts : ∀ w ∈ W0, w.before [.ref (b 0)].toArray s = true := fun w h => atoms_spec (ws := wDe_clear) B.pre w (List.mem_cons_of_mem _ h)
  have hown : s.vm.findClass RDe = some m.cls := findClass_of_methodNamed B.named
  have hlocks := B.notSynchronized
  subst hsz
  have hP0 := hP
  have hD := hD0.self (sz := s.heap.size)
  generalize hAe : va_A (wd k b P I D) s.heap.size = A at hD ⊢
  have hA : ∀ q : Nat, s.heap.size ≤ q → A q := fun q h => by rw [← hAe]; exact Or.inr h
  have hS : va_S A s.heap s.heap [] := va_S.rf
  have hl := lv_entry ([.ref (b 0)]) (n := 2) (Nat.le_of_ble_eq_true rfl)
  rw [lg_entry_eq]
  generalize (lg_sl ([.ref (b 0)]) ++ List.replicate (2 - (lg_sl ([.ref (b 0)])).length) Slot.unset).toArray = ls at hl ⊢
  have hl : lv_has ls 2 [(0, .ref (b 0))] := hl
  refine lv_aload_n hx hb dDe_clear_0 rfl (lv_at hl 0 rfl) ?_
  refine va_get (D := (dC, dI)) (ci := 7) (v := .ref (b 7)) (C := RDe) (T := TDe) (N := 10) hx hb hts inDe hown hK hP 0 rfl rfl 2 (by decide) (hts _ tw_194) (fun _ h9 => h9) rfl dDe_clear_1 ?_
  refine va_getN (D := (dC, dI)) (ci := 3) (v := .int (I 0 4)) (C := RSo) (T := TSo) (N := 7) hx hb hts inSo hown hK hP 7 rfl rfl 5 (by decide) (va_Nw.use rfl (hE _ en_83)) (fun _ h9 => h9) rfl dDe_clear_4 ?_
  refine rw_i (y := nI n) h4 ?_
  refine lv_istore_n (lv' := [(1, .int (nI n)), (0, .ref (b 0))]) hx hb dDe_clear_7 rfl hl (by decide) rfl (fun ls hl => ?_)
  refine lv_aload_n hx hb dDe_clear_8 rfl (lv_at hl 1 rfl) ?_
  refine va_get (D := (dC, dI)) (ci := 7) (v := .ref (b 7)) (C := RDe) (T := TDe) (N := 10) hx hb hts inDe hown hK hP 0 rfl rfl 2 (by decide) (hts _ tw_194) (fun _ h9 => h9) rfl dDe_clear_9 ?_
  refine ct_v (va_runV (As := []) (rest := []) ⟨hx, hb, hml, hown, hts⟩ (kSo_empty l dC dI k b P I D _ ) (cwV 0 hts (gw_V tw_231 tw_232 tw_233 tw_4 tw_234) rfl rfl rfl (by decide +kernel) ⟨Nat.le_of_ble_eq_true rfl, Nat.le_of_ble_eq_true rfl⟩) ⟨ct_blind (ev := (fun _ => True)) (fun _ _ _ _ h => h), va_recv hK hP (ci := 3) (q0 := 7) rfl rfl, ct_now (ev := (fun _ => True)) (fun _ _ _ => trivial) hP hK hD⟩ rfl rfl hl.1 rfl (lv_room (Nat.le_of_ble_eq_true rfl)) dDe_clear_12 ⟨Nat.le_of_ble_eq_true rfl, Nat.le_of_ble_eq_true rfl⟩) hD hS hA (fun u1 H locs hw1 hP hD hS => ?_)
  subst hw1
  refine lv_aload_n hx hb dDe_clear_15 rfl (lv_at hl 1 rfl) ?_
  refine va_get (D := (dC, dI)) (ci := 7) (v := .ref (b 15)) (C := RDe) (T := TDe) (N := 10) hx hb hts inDe hown hK hP 0 rfl rfl 4 (by decide) (hts _ tw_196) (fun _ h9 => h9) rfl dDe_clear_16 ?_
  refine ct_v (va_runV (As := []) (rest := []) ⟨hx, hb, hml, hown, hts⟩ (kLi_empty l dC dI k b P (ui (ui I 0 4 (nI 0)) 0 5 (nI 0)) D _ ) (cwV 0 hts (gw_V tw_235 tw_236 tw_237 tw_7 tw_238) rfl rfl rfl (by decide +kernel) ⟨Nat.le_of_ble_eq_true rfl, Nat.le_of_ble_eq_true rfl⟩) ⟨ct_blind (ev := (fun _ => True)) (fun _ _ _ _ h => h), va_recv hK hP (ci := 6) (q0 := 15) rfl rfl, ct_now (ev := (fun _ => True)) (fun _ _ _ => trivial) hP hK hD⟩ rfl rfl hl.1 rfl (lv_room (Nat.le_of_ble_eq_true rfl)) dDe_clear_19 ⟨Nat.le_of_ble_eq_true rfl, Nat.le_of_ble_eq_true rfl⟩) hD hS hA (fun u2 H locs hw2 hP hD hS => ?_)
  subst hw2
  refine lv_iload_n hx hb dDe_clear_22 rfl (lv_at hl 0 rfl) ?_
  exact ct_ri hx hb hr hlocks (ui (ui (ui I 0 4 (nI 0)) 0 5 (nI 0)) 0 7 (nI 0)) (⟨rfl, rfl⟩) hP hD hS (Nat.le_refl _) (Nat.le_refl _) dDe_clear_23
set_option maxHeartbeats 4000000 in
set_option maxRecDepth 100000 in
theorem kDe_wave (l : Launch) (hln : l.stackTraces = false) (dC : Nat → ClassId) (dI : Nat → Nat → Nat) (k : Nat → ClassId) (b P : Nat → Nat) (I : Nat → Nat → Int32) (D : Nat → Nat → UInt64) (sz : Nat) (n st : Int32) (a : UInt64) (ha : fb_ 1055 a) (ns : Nat) (hn : ns ≤ 320) (h4 : I 0 4 = nI ns) (hc : ∀ j, j < 32 → D 5 j = hd_C j) : ex_Met l yDe_wave wDe_wave ({ frames := 6, cells := 1, slots := 6, locals := 82 }) (va_Pc [.ref (b 0), .int n, .int st, .double a] (ct_pre (dC, dI) (de_ty k) ev_D (wd k b P I D) sz)) (va_Qi (fun r (u : (Nat → Nat → Int32) × (Nat → Nat → UInt64)) => ∃ q, 1 ≤ q ∧ q ≤ 64 ∧ n = nI q ∧ ∃ sp, 0 ≤ sp ∧ sp ≤ 31 ∧ st = nI sp ∧ ns + q ≤ 320 ∧ r = nI (ns + q) ∧ u = (ui I 0 4 (nI (ns + q)), hd_wr D 1 ns sp a q)) (fun u t => ct_at (dC, dI) (va_A (wd k b P I D) sz) ((fun u => wd k b P u.1 u.2) u) t) (va_A (wd k b P I D) sz)) (ct_X (dC, dI) (va_A (wd k b P I D) sz) (fun E (u : (Nat → Nat → Int32) × (Nat → Nat → UInt64)) => u = (I, D) ∧ ((E = th_IA ∧ ¬ ((∃ q, 1 ≤ q ∧ q ≤ 64 ∧ n = nI q) ∧ ∃ sp, 0 ≤ sp ∧ sp ≤ 31 ∧ st = nI sp)) ∨ (E = th_IO ∧ ∃ q, 1 ≤ q ∧ q ≤ 64 ∧ n = nI q ∧ (∃ sp, 0 ≤ sp ∧ sp ≤ 31 ∧ st = nI sp) ∧ 320 < ns + q))) (fun u => wd k b P u.1 u.2)) 1 6 (va_A (wd k b P I D) sz) := by
  refine ex_met (cc := cDe_wave) (maxL := 6) (ret := (some .int)) (by decide) rfl ?_
  intro p e s m args below meth c s₁ B hml htab hv
  obtain ⟨rfl, hsz, hP, hK, hD0, hE⟩ := hv
  have hx := B.exec
  have hb := B.bytes
  have hr := B.returns
  have hts : ∀ w ∈ W0, w.before [.ref (b 0), .int n, .int st, .double a].toArray s = true := fun w h => atoms_spec (ws := wDe_wave) B.pre w (List.mem_cons_of_mem _ h)
  have hown : s.vm.findClass RDe = some m.cls := findClass_of_methodNamed B.named
  have hlocks := B.notSynchronized
  subst hsz
  have hP0 := hP
  have hD := hD0.self (sz := s.heap.size)
  generalize hAe : va_A (wd k b P I D) s.heap.size = A at hD ⊢
  have hA : ∀ q : Nat, s.heap.size ≤ q → A q := fun q h => by rw [← hAe]; exact Or.inr h
  have hS : va_S A s.heap s.heap [] := va_S.rf
  have hl := lv_entry ([.ref (b 0), .int n, .int st, .double a]) (n := 6) (Nat.le_of_ble_eq_true rfl)
  rw [lg_entry_eq]
  generalize (lg_sl ([.ref (b 0), .int n, .int st, .double a]) ++ List.replicate (6 - (lg_sl ([.ref (b 0), .int n, .int st, .double a])).length) Slot.unset).toArray = ls at hl ⊢
  have hl : lv_has ls 6 [(0, .ref (b 0)), (1, .int n), (2, .int st), (3, .double a)] := hl
  refine lp_q (fun Q9 hQ9 => ?_)
  refine lv_iload_n hx hb dDe_wave_0 rfl (lv_at hl 1 rfl) ?_
  refine lv_iconst (v := nI 1) hx hb dDe_wave_1 (by decide +kernel) ?_
  refine lv_icmp_lt (tgt := 21) hx hb dDe_wave_2 (by decide) (fun c2 => ?_) (fun c2 => ?_)
  · rw [hQ9]
    exact th_throw hx hb hln (cls := th_IA) (text := "a wave has 1 to 64 samples and a step of 0 to 31") hown hP0 hAe hts hE.2 (by decide +kernel) t3_67_113 th_IA_w (hl.1.trans hml.symm) htab dDe_wave_21 dDe_wave_24 dDe_wave_25 dDe_wave_27 dDe_wave_30 hlocks (I, D) (⟨rfl, Or.inl ⟨rfl, by first | (exact fun z => dn_lo (by decide) (by decide) c2 z.1) | (exact fun z => dn_hi (by decide) (fun y => c18 (dn_succ y)) z.2) | (exact fun z => dn_hi (by decide) (Int32.not_le.mpr c8) z.1) | (exact fun z => dn_lo (a := 0) (by decide) (by decide) c12 z.2)⟩⟩) hP hD hS (Nat.le_of_ble_eq_true rfl) (Nat.le_of_ble_eq_true rfl) (Nat.le_of_ble_eq_true rfl) (Nat.le_of_ble_eq_true rfl) (Nat.le_refl _) (Nat.le_refl _)
  · refine lv_iload_n hx hb dDe_wave_5 rfl (lv_at hl 1 rfl) ?_
    refine lv_bipush (v := nI 64) hx hb dDe_wave_6 (by decide +kernel) ?_
    refine lv_icmp_gt (tgt := 21) hx hb dDe_wave_8 (by decide) (fun c8 => ?_) (fun c8 => ?_)
    · rw [hQ9]
      exact th_throw hx hb hln (cls := th_IA) (text := "a wave has 1 to 64 samples and a step of 0 to 31") hown hP0 hAe hts hE.2 (by decide +kernel) t3_67_113 th_IA_w (hl.1.trans hml.symm) htab dDe_wave_21 dDe_wave_24 dDe_wave_25 dDe_wave_27 dDe_wave_30 hlocks (I, D) (⟨rfl, Or.inl ⟨rfl, by first | (exact fun z => dn_lo (by decide) (by decide) c2 z.1) | (exact fun z => dn_hi (by decide) (fun y => c18 (dn_succ y)) z.2) | (exact fun z => dn_hi (by decide) (Int32.not_le.mpr c8) z.1) | (exact fun z => dn_lo (a := 0) (by decide) (by decide) c12 z.2)⟩⟩) hP hD hS (Nat.le_of_ble_eq_true rfl) (Nat.le_of_ble_eq_true rfl) (Nat.le_of_ble_eq_true rfl) (Nat.le_of_ble_eq_true rfl) (Nat.le_refl _) (Nat.le_refl _)
    · obtain ⟨q, q1, q2, rfl⟩ := dn_in (by decide) (by decide) c2 (Int32.not_lt.mp c8)
      refine lv_iload_n hx hb dDe_wave_11 rfl (lv_at hl 2 rfl) ?_
      refine lv_if_lt (tgt := 21) hx hb dDe_wave_12 (by decide) (fun c12 => ?_) (fun c12 => ?_)
      · rw [hQ9]
        exact th_throw hx hb hln (cls := th_IA) (text := "a wave has 1 to 64 samples and a step of 0 to 31") hown hP0 hAe hts hE.2 (by decide +kernel) t3_67_113 th_IA_w (hl.1.trans hml.symm) htab dDe_wave_21 dDe_wave_24 dDe_wave_25 dDe_wave_27 dDe_wave_30 hlocks (I, D) (⟨rfl, Or.inl ⟨rfl, by first | (exact fun z => dn_lo (by decide) (by decide) c2 z.1) | (exact fun z => dn_hi (by decide) (fun y => c18 (dn_succ y)) z.2) | (exact fun z => dn_hi (by decide) (Int32.not_le.mpr c8) z.1) | (exact fun z => dn_lo (a := 0) (by decide) (by decide) c12 z.2)⟩⟩) hP hD hS (Nat.le_of_ble_eq_true rfl) (Nat.le_of_ble_eq_true rfl) (Nat.le_of_ble_eq_true rfl) (Nat.le_of_ble_eq_true rfl) (Nat.le_refl _) (Nat.le_refl _)
      · refine lv_iload_n hx hb dDe_wave_15 rfl (lv_at hl 2 rfl) ?_
        refine lv_bipush (v := nI 32) hx hb dDe_wave_16 (by decide +kernel) ?_
        refine lv_icmp_lt (tgt := 31) hx hb dDe_wave_18 (by decide) (fun c18 => ?_) (fun c18 => ?_)
        · obtain ⟨sp, s1, s2, rfl⟩ := dn_in (a := 0) (c := 31) (by decide) (by decide) c12 (dn_pred c18)
          refine lv_aload_n hx hb dDe_wave_31 rfl (lv_at hl 0 rfl) ?_
          refine va_get (D := (dC, dI)) (ci := 7) (v := .ref (b 7)) (C := RDe) (T := TDe) (N := 10) hx hb hts inDe hown hK hP 0 rfl rfl 2 (by decide) (hts _ tw_194) (fun _ h9 => h9) rfl dDe_wave_32 ?_
          refine va_getN (D := (dC, dI)) (ci := 3) (v := .int (I 0 4)) (C := RSo) (T := TSo) (N := 7) hx hb hts inSo hown hK hP 7 rfl rfl 5 (by decide) (va_Nw.use rfl (hE.1 _ en_83)) (fun _ h9 => h9) rfl dDe_wave_35 ?_
          refine rw_i (y := nI ns) h4 ?_
          refine lv_iload_n hx hb dDe_wave_38 rfl (lv_at hl 1 rfl) ?_
          refine lv_iadd hx hb dDe_wave_39 ?_
          refine rw_i (y := nI (ns + q)) (nI_add _ _) ?_
          refine lv_sipush (v := nI 320) hx hb dDe_wave_40 (by decide +kernel) ?_
          refine lv_icmp_le (tgt := 56) hx hb dDe_wave_43 (by decide) (fun c43 => ?_) (fun c43 => ?_)
          · have c43 : (ns + q) ≤ 320 := (nI_leI (a := (ns + q)) (b := 320) (by omega) (by omega)).mp (show nI (ns + q) ≤ nI 320 from c43)
            refine lv_iconst (v := nI 0) hx hb dDe_wave_56 (by decide +kernel) ?_
            refine lv_istore (lv' := [(5, .int (nI 0)), (0, .ref (b 0)), (1, .int (nI q)), (2, .int (nI sp)), (3, .double a)]) hx hb dDe_wave_57 hl (by decide) rfl (fun ls hl => ?_)
            have hP : va_P (dC, dI) vwCl (wd k b P (ui I 0 4 (nI (ns + 0))) (hd_wr D 1 ns sp a 0)) s.heap := by rw [ui_id (show I 0 4 = nI (ns + 0) from h4)]; exact hP
            have hD : va_D A (wd k b P (ui I 0 4 (nI (ns + 0))) (hd_wr D 1 ns sp a 0)) := by rw [ui_id (show I 0 4 = nI (ns + 0) from h4)]; exact hD
            have L59 : ∀ (n59 : Nat) (j : Nat), q - j < n59 → j ≤ q → ∀ (H : Heap) (locs : List Loc), va_P (dC, dI) vwCl (wd k b P (ui I 0 4 (nI (ns + j))) (hd_wr D 1 ns sp a j)) H → va_D A (wd k b P (ui I 0 4 (nI (ns + j))) (hd_wr D 1 ns sp a j)) → va_S A s.heap H locs → ∀ ls : Array Slot, lv_has ls 6 [(0, .ref (b 0)), (1, .int (nI q)), (2, .int (nI sp)), (3, .double a), (5, .int (nI j))] → W p l e (headSpec wDe_wave ({ frames := 6, cells := 1, slots := 6, locals := 82 })).room s m [.ref (b 0), .int (nI q), .int (nI sp), .double a].toArray below meth c H locs 0 0 Q9 (F0 m 59 ls []) := by
              intro n59
              induction n59 with
              | zero => intro j hm; exact absurd hm (Nat.not_lt_zero _)
              | succ n59 ih59 =>
                intro j hm59 hj H locs hP hD hS ls hl
                refine lv_iload hx hb dDe_wave_59 (lv_at hl 4 rfl) ?_
                refine lv_iload_n hx hb dDe_wave_61 rfl (lv_at hl 1 rfl) ?_
                refine lv_icmp_ge (tgt := 97) hx hb dDe_wave_62 (by decide) (fun c62 => ?_) (fun c62 => ?_)
                · have c62 : q ≤ j := (nI_leI (a := q) (b := j) (by omega) (by omega)).mp (show nI q ≤ nI j from c62)
                  obtain rfl : j = q := by omega
                  refine lv_aload_n hx hb dDe_wave_97 rfl (lv_at hl 0 rfl) ?_
                  refine va_get (D := (dC, dI)) (ci := 7) (v := .ref (b 7)) (C := RDe) (T := TDe) (N := 10) hx hb hts inDe hown hK hP 0 rfl rfl 2 (by decide) (hts _ tw_194) (fun _ h9 => h9) rfl dDe_wave_98 ?_
                  refine va_getN (D := (dC, dI)) (ci := 3) (v := .int ((ui I 0 4 (nI (ns + j))) 0 4)) (C := RSo) (T := TSo) (N := 7) hx hb hts inSo hown hK hP 7 rfl rfl 5 (by decide) (va_Nw.use rfl (hE.1 _ en_83)) (fun _ h9 => h9) rfl dDe_wave_101 ?_
                  refine rw_i (y := nI (ns + j)) (ui_s _ _ _ _) ?_
                  rw [hQ9]
                  exact ex_ret (ct_ri hx hb hr hlocks (ui I 0 4 (nI (ns + j)), hd_wr D 1 ns sp a j) (⟨j, q1, q2, rfl, sp, s1, s2, rfl, by omega, rfl, rfl⟩) hP hD hS (Nat.zero_le _) (Nat.zero_le _) dDe_wave_104)
                · have c62 : ¬ q ≤ j := fun q9 => c62 (show nI q ≤ nI j from (nI_leI (a := q) (b := j) (by omega) (by omega)).mpr q9)
                  refine lv_aload_n hx hb dDe_wave_65 rfl (lv_at hl 0 rfl) ?_
                  refine va_get (D := (dC, dI)) (ci := 7) (v := .ref (b 7)) (C := RDe) (T := TDe) (N := 10) hx hb hts inDe hown hK hP 0 rfl rfl 2 (by decide) (hts _ tw_194) (fun _ h9 => h9) rfl dDe_wave_66 ?_
                  refine lv_dload_n hx hb dDe_wave_69 rfl (lv_at hl 3 rfl) ?_
                  refine lv_aload_n hx hb dDe_wave_70 rfl (lv_at hl 0 rfl) ?_
                  refine va_get (D := (dC, dI)) (ci := 7) (v := .ref (b 3)) (C := RDe) (T := TDe) (N := 10) hx hb hts inDe hown hK hP 0 rfl rfl 1 (by decide) (hts _ tw_193) (fun _ h9 => h9) rfl dDe_wave_71 ?_
                  refine va_getN (D := (dC, dI)) (ci := 0) (v := .ref (b 4)) (C := RCi) (T := TCi) (N := 3) hx hb hts inCi hown hK hP 3 rfl rfl 0 (by decide) (va_Nw.use rfl (hE.1 _ en_54)) (fun _ h9 => h9) rfl dDe_wave_74 ?_
                  refine lv_iload hx hb dDe_wave_77 (lv_at hl 4 rfl) ?_
                  refine lv_iload_n hx hb dDe_wave_79 rfl (lv_at hl 2 rfl) ?_
                  have hjs : j * sp ≤ 64 * 31 := Nat.mul_le_mul (by omega) s2
                  refine lv_imul hx hb dDe_wave_80 ?_
                  refine rw_i (y := nI (j * sp)) (pk_mul _ _) ?_
                  refine lv_bipush (v := nI 32) hx hb dDe_wave_81 (by decide +kernel) ?_
                  refine lv_irem hx hb dDe_wave_83 (by decide +kernel) ?_
                  refine rw_i (y := nI ((j * sp) % 32)) (pk_rem (by omega) (by omega) (by omega)) ?_
                  refine rw_ald_d hx hb hK hP 4 1 rfl rfl (Nat.mod_lt _ (by decide)) (by decide) dDe_wave_84 ?_
                  refine rw_d (y := hd_C ((j * sp) % 32)) (by rw [hd_wr_o _ _ _ _ _ (by decide)]; exact hc _ (Nat.mod_lt _ (by decide))) ?_
                  have hP : va_P (dC, dI) vwCl ([] ++ ([] ++ (wd k b P (ui I 0 4 (nI (ns + j))) (hd_wr D 1 ns sp a j)))) _ := hP
                  have hD : va_D A ([] ++ ([] ++ (wd k b P (ui I 0 4 (nI (ns + j))) (hd_wr D 1 ns sp a j)))) := hD
                  refine sg_d (va_runS (As := [.double a, .double (hd_C ((j * sp) % 32))]) (rest := [.ref (b 7)]) ⟨hx, hb, hml, hown, hts⟩ (kNu_swing l dC dI k b P I D _ a (hd_C (j * sp % 32)) (fb_mono ha (by decide)) (fb_n (fb_mul ha (hd_C_b _ (Nat.mod_lt _ (by decide))) (by decide) (by decide)) (by decide))) (va_cwS 2 hts (gw_S tw_423 tw_424 tw_15 tw_425) rfl rfl rfl (by decide +kernel) ⟨Nat.le_of_ble_eq_true rfl, Nat.le_of_ble_eq_true rfl⟩) ⟨ct_blind (ev := fun _ => True) (fun _ _ _ _ h => h), ct_now (A := A) (ev := fun _ => True) (fun _ _ _ => trivial) (sg_Pc hP) hK (sg_Dc hD)⟩ rfl rfl hl.1 rfl (lv_room (Nat.le_of_ble_eq_true rfl)) dDe_wave_85 ⟨Nat.le_of_ble_eq_true rfl, Nat.le_of_ble_eq_true rfl⟩) hP hD hS hA (fun r1 u1 H locs hw1 hP hD hS => ?_)
                  have hP : va_P (dC, dI) vwCl (wd k b P (ui I 0 4 (nI (ns + j))) (hd_wr D 1 ns sp a j)) H := hP
                  have hD : va_D A (wd k b P (ui I 0 4 (nI (ns + j))) (hd_wr D 1 ns sp a j)) := hD
                  subst hw1
                  refine ct_v (va_runV (As := [.double (FP.dmul a (hd_C (j * sp % 32)))]) (rest := []) ⟨hx, hb, hml, hown, hts⟩ (kSo_append l dC dI k b P (ui I 0 4 (nI (ns + j))) (hd_wr D 1 ns sp a j) _ (FP.dmul a (hd_C (j * sp % 32))) (ns + j) (by omega) (ui_s _ _ _ _)) (cwV 1 hts (gw_V tw_410 tw_411 tw_412 tw_4 tw_413) rfl rfl rfl (by decide +kernel) ⟨Nat.le_of_ble_eq_true rfl, Nat.le_of_ble_eq_true rfl⟩) ⟨ct_blind (ev := (fun _ => True)) (fun _ _ _ _ h => h), va_recv hK hP (ci := 3) (q0 := 7) rfl rfl, ct_now (ev := (fun _ => True)) (fun _ _ _ => trivial) hP hK hD⟩ rfl rfl hl.1 rfl (lv_room (Nat.le_of_ble_eq_true rfl)) dDe_wave_88 ⟨Nat.le_of_ble_eq_true rfl, Nat.le_of_ble_eq_true rfl⟩) hD hS hA (fun u2 H locs hw2 hP hD hS => ?_)
                  subst hw2
                  refine lv_iinc (v := nI (j + 1)) (lv' := [(5, .int (nI (j + 1))), (0, .ref (b 0)), (1, .int (nI q)), (2, .int (nI sp)), (3, .double a)]) hx hb dDe_wave_91 hl (k := 4) rfl (nI_1 _) (by decide) rfl (fun ls hl => ?_)
                  refine lv_goto (tgt := 59) hx hb dDe_wave_94 (by decide) ?_
                  rw [ui_ww] at hP hD
                  exact ih59 (j + 1) (by omega) (by omega) _ _ hP hD hS ls (lv_sub hl [1, 2, 3, 4, 0] rfl)
            exact L59 _ 0 (Nat.lt_succ_self _) (by omega) _ _ hP hD hS ls (lv_sub hl [1, 2, 3, 4, 0] rfl)
          · have c43 : ¬ (ns + q) ≤ 320 := fun q9 => c43 (show nI (ns + q) ≤ nI 320 from (nI_leI (a := (ns + q)) (b := 320) (by omega) (by omega)).mpr q9)
            rw [hQ9]
            exact th_throw hx hb hln (cls := th_IO) (text := "there are up to 320 samples") hown hP0 hAe hts hE.2 (by decide +kernel) t3_77_98 th_IO_w (hl.1.trans hml.symm) htab dDe_wave_46 dDe_wave_49 dDe_wave_50 dDe_wave_52 dDe_wave_55 hlocks (I, D) (⟨rfl, Or.inr ⟨rfl, q, q1, q2, rfl, ⟨sp, s1, s2, rfl⟩, by omega⟩⟩) hP hD hS (Nat.le_of_ble_eq_true rfl) (Nat.le_of_ble_eq_true rfl) (Nat.le_of_ble_eq_true rfl) (Nat.le_of_ble_eq_true rfl) (Nat.le_refl _) (Nat.le_refl _)
        · rw [hQ9]
          exact th_throw hx hb hln (cls := th_IA) (text := "a wave has 1 to 64 samples and a step of 0 to 31") hown hP0 hAe hts hE.2 (by decide +kernel) t3_67_113 th_IA_w (hl.1.trans hml.symm) htab dDe_wave_21 dDe_wave_24 dDe_wave_25 dDe_wave_27 dDe_wave_30 hlocks (I, D) (⟨rfl, Or.inl ⟨rfl, by first | (exact fun z => dn_lo (by decide) (by decide) c2 z.1) | (exact fun z => dn_hi (by decide) (fun y => c18 (dn_succ y)) z.2) | (exact fun z => dn_hi (by decide) (Int32.not_le.mpr c8) z.1) | (exact fun z => dn_lo (a := 0) (by decide) (by decide) c12 z.2)⟩⟩) hP hD hS (Nat.le_of_ble_eq_true rfl) (Nat.le_of_ble_eq_true rfl) (Nat.le_of_ble_eq_true rfl) (Nat.le_of_ble_eq_true rfl) (Nat.le_refl _) (Nat.le_refl _)
set_option maxHeartbeats 4000000 in
set_option maxRecDepth 100000 in
theorem kDe_sample (l : Launch) (hln : l.stackTraces = false) (dC : Nat → ClassId) (dI : Nat → Nat → Nat) (k : Nat → ClassId) (b P : Nat → Nat) (I : Nat → Nat → Int32) (D : Nat → Nat → UInt64) (sz : Nat) (i : Int32) (ns : Nat) (hn : ns ≤ 320) (h4 : I 0 4 = nI ns) : ex_Met l yDe_sample wDe_sample ({ frames := 6, cells := 1, slots := 6, locals := 82 }) (va_Pc [.ref (b 0), .int i] (ct_pre (dC, dI) (de_ty k) ev_D (wd k b P I D) sz)) (va_Qd (fun r (u : Nat → Nat → Int32) => u = I ∧ ∃ j, j < ns ∧ i = nI j ∧ r = D 1 j) (fun u t => ct_at (dC, dI) (va_A (wd k b P I D) sz) ((fun u => wd k b P u D) u) t) (va_A (wd k b P I D) sz)) (ct_X (dC, dI) (va_A (wd k b P I D) sz) (fun E (u : Nat → Nat → Int32) => u = I ∧ E = th_IO ∧ ¬ ∃ j, j < ns ∧ i = nI j) (fun u => wd k b P u D)) 1 6 (va_A (wd k b P I D) sz) := by
  refine ex_met (cc := cDe_sample) (maxL := 2) (ret := (some .double)) (by decide) rfl ?_
  intro p e s m args below meth c s₁ B hml htab hv
  obtain ⟨rfl, hsz, hP, hK, hD0, hE⟩ := hv
  have hx := B.exec
  have hb := B.bytes
  have hr := B.returns
  have hts : ∀ w ∈ W0, w.before [.ref (b 0), .int i].toArray s = true := fun w h => atoms_spec (ws := wDe_sample) B.pre w (List.mem_cons_of_mem _ h)
  have hown : s.vm.findClass RDe = some m.cls := findClass_of_methodNamed B.named
  have hlocks := B.notSynchronized
  subst hsz
  have hP0 := hP
  have hD := hD0.self (sz := s.heap.size)
  generalize hAe : va_A (wd k b P I D) s.heap.size = A at hD ⊢
  have hA : ∀ q : Nat, s.heap.size ≤ q → A q := fun q h => by rw [← hAe]; exact Or.inr h
  have hS : va_S A s.heap s.heap [] := va_S.rf
  have hl := lv_entry ([.ref (b 0), .int i]) (n := 2) (Nat.le_of_ble_eq_true rfl)
  rw [lg_entry_eq]
  generalize (lg_sl ([.ref (b 0), .int i]) ++ List.replicate (2 - (lg_sl ([.ref (b 0), .int i])).length) Slot.unset).toArray = ls at hl ⊢
  have hl : lv_has ls 2 [(0, .ref (b 0)), (1, .int i)] := hl
  refine lv_iload_n hx hb dDe_sample_0 rfl (lv_at hl 1 rfl) ?_
  refine lv_if_lt (tgt := 15) hx hb dDe_sample_1 (by decide) (fun c1 => ?_) (fun c1 => ?_)
  · exact th_throw hx hb hln (cls := th_IO) (text := "there is no such sample") hown hP0 hAe hts hE.2 (by decide +kernel) t3_77_126 th_IO_w (hl.1.trans hml.symm) htab dDe_sample_15 dDe_sample_18 dDe_sample_19 dDe_sample_21 dDe_sample_24 hlocks I (⟨rfl, rfl, by first | (exact dj_lo (by omega) c1) | (exact dj_hi (by omega) c12)⟩) hP hD hS (Nat.le_of_ble_eq_true rfl) (Nat.le_of_ble_eq_true rfl) (Nat.le_of_ble_eq_true rfl) (Nat.le_of_ble_eq_true rfl) (Nat.le_refl _) (Nat.le_refl _)
  · refine lv_iload_n hx hb dDe_sample_4 rfl (lv_at hl 1 rfl) ?_
    refine lv_aload_n hx hb dDe_sample_5 rfl (lv_at hl 0 rfl) ?_
    refine va_get (D := (dC, dI)) (ci := 7) (v := .ref (b 7)) (C := RDe) (T := TDe) (N := 10) hx hb hts inDe hown hK hP 0 rfl rfl 2 (by decide) (hts _ tw_194) (fun _ h9 => h9) rfl dDe_sample_6 ?_
    refine va_getN (D := (dC, dI)) (ci := 3) (v := .int (I 0 4)) (C := RSo) (T := TSo) (N := 7) hx hb hts inSo hown hK hP 7 rfl rfl 5 (by decide) (va_Nw.use rfl (hE.1 _ en_83)) (fun _ h9 => h9) rfl dDe_sample_9 ?_
    refine rw_i (y := nI ns) h4 ?_
    refine lv_icmp_lt (tgt := 25) hx hb dDe_sample_12 (by decide) (fun c12 => ?_) (fun c12 => ?_)
    · obtain ⟨j, hj, rfl⟩ := dj_in (by omega) c1 c12
      refine lv_aload_n hx hb dDe_sample_25 rfl (lv_at hl 0 rfl) ?_
      refine va_get (D := (dC, dI)) (ci := 7) (v := .ref (b 7)) (C := RDe) (T := TDe) (N := 10) hx hb hts inDe hown hK hP 0 rfl rfl 2 (by decide) (hts _ tw_194) (fun _ h9 => h9) rfl dDe_sample_26 ?_
      refine va_getN (D := (dC, dI)) (ci := 3) (v := .ref (b 8)) (C := RSo) (T := TSo) (N := 7) hx hb hts inSo hown hK hP 7 rfl rfl 1 (by decide) (va_Nw.use rfl (hE.1 _ en_76)) (fun _ h9 => h9) rfl dDe_sample_29 ?_
      refine lv_iload_n hx hb dDe_sample_32 rfl (lv_at hl 1 rfl) ?_
      refine rw_ald_d hx hb hK hP 8 1 rfl rfl (by omega) (by decide) dDe_sample_33 ?_
      exact ex_ret (ct_rd hx hb hr hlocks I (⟨rfl, j, hj, rfl, rfl⟩) hP hD hS (Nat.zero_le _) (Nat.zero_le _) dDe_sample_34)
    · exact th_throw hx hb hln (cls := th_IO) (text := "there is no such sample") hown hP0 hAe hts hE.2 (by decide +kernel) t3_77_126 th_IO_w (hl.1.trans hml.symm) htab dDe_sample_15 dDe_sample_18 dDe_sample_19 dDe_sample_21 dDe_sample_24 hlocks I (⟨rfl, rfl, by first | (exact dj_lo (by omega) c1) | (exact dj_hi (by omega) c12)⟩) hP hD hS (Nat.le_of_ble_eq_true rfl) (Nat.le_of_ble_eq_true rfl) (Nat.le_of_ble_eq_true rfl) (Nat.le_of_ble_eq_true rfl) (Nat.le_refl _) (Nat.le_refl _)
set_option maxHeartbeats 4000000 in
set_option maxRecDepth 100000 in
theorem kDe_ways (l : Launch) (hln : l.stackTraces = false) (dC : Nat → ClassId) (dI : Nat → Nat → Nat) (k : Nat → ClassId) (b P : Nat → Nat) (I : Nat → Nat → Int32) (D : Nat → Nat → UInt64) (sz : Nat) (th lm : UInt64) (gp : Int32) : ex_Met l yDe_ways wDe_ways ({ frames := 6, cells := 1, slots := 6, locals := 82 }) (va_Pc [.ref (b 0), .double th, .int gp, .double lm] (ct_pre (dC, dI) (de_ty k) ev_D (wd k b P I D) sz)) (va_Qv (fun (u : (Nat → Nat → Int32) × (Nat → Nat → UInt64)) => FP.dcmp th 0 = some .gt ∧ ¬ FP.dcmp lm 0 = some .lt ∧ ∃ g, 1 ≤ g ∧ g ≤ 4 ∧ gp = nI g ∧ u = (ui I 0 2 (nI g), ud (ud D 0 0 th) 0 1 lm)) (fun u t => ct_at (dC, dI) (va_A (wd k b P I D) sz) ((fun u => wd k b P u.1 u.2) u) t) (va_A (wd k b P I D) sz)) (ct_X (dC, dI) (va_A (wd k b P I D) sz) (fun E (u : (Nat → Nat → Int32) × (Nat → Nat → UInt64)) => u = (I, D) ∧ E = th_IA ∧ ¬ (FP.dcmp th 0 = some .gt ∧ (∃ g, 1 ≤ g ∧ g ≤ 4 ∧ gp = nI g) ∧ ¬ FP.dcmp lm 0 = some .lt)) (fun u => wd k b P u.1 u.2)) 1 6 (va_A (wd k b P I D) sz) := by
  refine ex_met (cc := cDe_ways) (maxL := 6) (ret := none) (by decide) rfl ?_
  intro p e s m args below meth c s₁ B hml htab hv
  obtain ⟨rfl, hsz, hP, hK, hD0, hE⟩ := hv
  have hx := B.exec
  have hb := B.bytes
  have hr := B.returns
  have hts : ∀ w ∈ W0, w.before [.ref (b 0), .double th, .int gp, .double lm].toArray s = true := fun w h => atoms_spec (ws := wDe_ways) B.pre w (List.mem_cons_of_mem _ h)
  have hown : s.vm.findClass RDe = some m.cls := findClass_of_methodNamed B.named
  have hlocks := B.notSynchronized
  subst hsz
  have hP0 := hP
  have hD := hD0.self (sz := s.heap.size)
  generalize hAe : va_A (wd k b P I D) s.heap.size = A at hD ⊢
  have hA : ∀ q : Nat, s.heap.size ≤ q → A q := fun q h => by rw [← hAe]; exact Or.inr h
  have hS : va_S A s.heap s.heap [] := va_S.rf
  have hl := lv_entry ([.ref (b 0), .double th, .int gp, .double lm]) (n := 6) (Nat.le_of_ble_eq_true rfl)
  rw [lg_entry_eq]
  generalize (lg_sl ([.ref (b 0), .double th, .int gp, .double lm]) ++ List.replicate (6 - (lg_sl ([.ref (b 0), .double th, .int gp, .double lm])).length) Slot.unset).toArray = ls at hl ⊢
  have hl : lv_has ls 6 [(0, .ref (b 0)), (1, .double th), (3, .int gp), (4, .double lm)] := hl
  refine lv_dload_n hx hb dDe_ways_0 rfl (lv_at hl 1 rfl) ?_
  refine lv_dconst0 hx hb dDe_ways_1 ?_
  refine rw_d (y := 0) rfl ?_
  refine lv_dcmp hx hb dDe_ways_2 ?_
  refine lv_if_le (tgt := 23) hx hb dDe_ways_3 (by decide) (fun c3 => ?_) (fun c3 => ?_)
  · exact th_throw hx hb hln (cls := th_IA) (text := "the threshold is above 0.0, the gap 1 to 4, the limit not below 0.0") hown hP0 hAe hts hE.2 (by decide +kernel) t3_67_152 th_IA_w (hl.1.trans hml.symm) htab dDe_ways_23 dDe_ways_26 dDe_ways_27 dDe_ways_29 dDe_ways_32 hlocks (I, D) (⟨rfl, rfl, by first | (exact fun z => (fc_le_l _).mp c3 z.1) | (exact fun z => z.2.2 ((fc_lt_g _).mp (Int32.not_le.mp c20))) | (exact fun z => dn_lo (by decide) (by decide) c8 z.2.1) | (exact fun z => dn_hi (by decide) (Int32.not_le.mpr c13) z.2.1)⟩) hP hD hS (Nat.le_of_ble_eq_true rfl) (Nat.le_of_ble_eq_true rfl) (Nat.le_of_ble_eq_true rfl) (Nat.le_of_ble_eq_true rfl) (Nat.le_refl _) (Nat.le_refl _)
  · refine lv_iload_n hx hb dDe_ways_6 rfl (lv_at hl 2 rfl) ?_
    refine lv_iconst (v := nI 1) hx hb dDe_ways_7 (by decide +kernel) ?_
    refine lv_icmp_lt (tgt := 23) hx hb dDe_ways_8 (by decide) (fun c8 => ?_) (fun c8 => ?_)
    · exact th_throw hx hb hln (cls := th_IA) (text := "the threshold is above 0.0, the gap 1 to 4, the limit not below 0.0") hown hP0 hAe hts hE.2 (by decide +kernel) t3_67_152 th_IA_w (hl.1.trans hml.symm) htab dDe_ways_23 dDe_ways_26 dDe_ways_27 dDe_ways_29 dDe_ways_32 hlocks (I, D) (⟨rfl, rfl, by first | (exact fun z => (fc_le_l _).mp c3 z.1) | (exact fun z => z.2.2 ((fc_lt_g _).mp (Int32.not_le.mp c20))) | (exact fun z => dn_lo (by decide) (by decide) c8 z.2.1) | (exact fun z => dn_hi (by decide) (Int32.not_le.mpr c13) z.2.1)⟩) hP hD hS (Nat.le_of_ble_eq_true rfl) (Nat.le_of_ble_eq_true rfl) (Nat.le_of_ble_eq_true rfl) (Nat.le_of_ble_eq_true rfl) (Nat.le_refl _) (Nat.le_refl _)
    · refine lv_iload_n hx hb dDe_ways_11 rfl (lv_at hl 2 rfl) ?_
      refine lv_iconst (v := nI 4) hx hb dDe_ways_12 (by decide +kernel) ?_
      refine lv_icmp_gt (tgt := 23) hx hb dDe_ways_13 (by decide) (fun c13 => ?_) (fun c13 => ?_)
      · exact th_throw hx hb hln (cls := th_IA) (text := "the threshold is above 0.0, the gap 1 to 4, the limit not below 0.0") hown hP0 hAe hts hE.2 (by decide +kernel) t3_67_152 th_IA_w (hl.1.trans hml.symm) htab dDe_ways_23 dDe_ways_26 dDe_ways_27 dDe_ways_29 dDe_ways_32 hlocks (I, D) (⟨rfl, rfl, by first | (exact fun z => (fc_le_l _).mp c3 z.1) | (exact fun z => z.2.2 ((fc_lt_g _).mp (Int32.not_le.mp c20))) | (exact fun z => dn_lo (by decide) (by decide) c8 z.2.1) | (exact fun z => dn_hi (by decide) (Int32.not_le.mpr c13) z.2.1)⟩) hP hD hS (Nat.le_of_ble_eq_true rfl) (Nat.le_of_ble_eq_true rfl) (Nat.le_of_ble_eq_true rfl) (Nat.le_of_ble_eq_true rfl) (Nat.le_refl _) (Nat.le_refl _)
      · obtain ⟨g, g1, g2, rfl⟩ := dn_in (by decide) (by decide) c8 (Int32.not_lt.mp c13)
        refine lv_dload hx hb dDe_ways_16 (lv_at hl 3 rfl) ?_
        refine lv_dconst0 hx hb dDe_ways_18 ?_
        refine rw_d (y := 0) rfl ?_
        refine lv_dcmp hx hb dDe_ways_19 ?_
        refine lv_if_ge (tgt := 33) hx hb dDe_ways_20 (by decide) (fun c20 => ?_) (fun c20 => ?_)
        · refine lv_aload_n hx hb dDe_ways_33 rfl (lv_at hl 0 rfl) ?_
          refine lv_dload_n hx hb dDe_ways_34 rfl (lv_at hl 1 rfl) ?_
          refine va_put (D := (dC, dI)) (ci := 7) (fs := de_f b I D) (v := .double th) (ty := .double) (C := RDe) (T := TDe) (N := 10) hx hb hts inDe tyDe tyDe_ok nmDe hown hK hP hD hS 0 rfl rfl 7 (by decide) (hts _ tw_199) (fun _ h9 => h9) rfl (by decide +kernel) rfl rfl (Nat.le_of_ble_eq_true rfl) dDe_ways_35 (fun H locs hP hD hS => ?_)
          rw [wd_p0_7] at hP hD
          obtain ⟨D1, eD1⟩ : ∃ z, z = ud D 0 0 th := ⟨_, rfl⟩
          rw [← eD1] at hP hD
          refine lv_aload_n hx hb dDe_ways_38 rfl (lv_at hl 0 rfl) ?_
          refine lv_iload_n hx hb dDe_ways_39 rfl (lv_at hl 2 rfl) ?_
          refine va_put (D := (dC, dI)) (ci := 7) (fs := de_f b I D1) (v := .int (nI g)) (ty := .int) (C := RDe) (T := TDe) (N := 10) hx hb hts inDe tyDe tyDe_ok nmDe hown hK hP hD hS 0 rfl rfl 8 (by decide) (hts _ tw_200) (fun _ h9 => h9) rfl (by decide +kernel) rfl rfl (Nat.le_of_ble_eq_true rfl) dDe_ways_40 (fun H locs hP hD hS => ?_)
          rw [wd_p0_8] at hP hD
          obtain ⟨I2, eI2⟩ : ∃ z, z = ui I 0 2 (nI g) := ⟨_, rfl⟩
          rw [← eI2] at hP hD
          refine lv_aload_n hx hb dDe_ways_43 rfl (lv_at hl 0 rfl) ?_
          refine lv_dload hx hb dDe_ways_44 (lv_at hl 3 rfl) ?_
          refine va_put (D := (dC, dI)) (ci := 7) (fs := de_f b I2 D1) (v := .double lm) (ty := .double) (C := RDe) (T := TDe) (N := 10) hx hb hts inDe tyDe tyDe_ok nmDe hown hK hP hD hS 0 rfl rfl 9 (by decide) (hts _ tw_201) (fun _ h9 => h9) rfl (by decide +kernel) rfl rfl (Nat.le_of_ble_eq_true rfl) dDe_ways_46 (fun H locs hP hD hS => ?_)
          rw [wd_p0_9] at hP hD
          obtain ⟨D3, eD3⟩ : ∃ z, z = ud D1 0 1 lm := ⟨_, rfl⟩
          rw [← eD3] at hP hD
          exact ex_ret (ct_rv hx hb hr hlocks (I2, D3) (⟨(fc_gt_l _).mp (Int32.not_le.mp c3), (fc_ge_g _).mp c20, g, g1, g2, rfl, by rw [eI2, eD3, eD1]⟩) hP hD hS (Nat.zero_le _) (Nat.zero_le _) dDe_ways_49)
        · exact th_throw hx hb hln (cls := th_IA) (text := "the threshold is above 0.0, the gap 1 to 4, the limit not below 0.0") hown hP0 hAe hts hE.2 (by decide +kernel) t3_67_152 th_IA_w (hl.1.trans hml.symm) htab dDe_ways_23 dDe_ways_26 dDe_ways_27 dDe_ways_29 dDe_ways_32 hlocks (I, D) (⟨rfl, rfl, by first | (exact fun z => (fc_le_l _).mp c3 z.1) | (exact fun z => z.2.2 ((fc_lt_g _).mp (Int32.not_le.mp c20))) | (exact fun z => dn_lo (by decide) (by decide) c8 z.2.1) | (exact fun z => dn_hi (by decide) (Int32.not_le.mpr c13) z.2.1)⟩) hP hD hS (Nat.le_of_ble_eq_true rfl) (Nat.le_of_ble_eq_true rfl) (Nat.le_of_ble_eq_true rfl) (Nat.le_of_ble_eq_true rfl) (Nat.le_refl _) (Nat.le_refl _)
