set_option maxHeartbeats 4000000 in
set_option maxRecDepth 100000 in
theorem kDe_power (l : Launch) (hln : l.stackTraces = false) (dC : Nat → ClassId) (dI : Nat → Nat → Nat) (k : Nat → ClassId) (b P : Nat → Nat) (I : Nat → Nat → Int32) (D : Nat → Nat → UInt64) (sz : Nat) (f9 k9 : Int32) (ns : Nat) (hn : ns ≤ 320) (h4 : I 0 4 = nI ns) (hsm : ∀ i, i < ns → fb_ 1057 (D 1 i)) (hc : ∀ j, j < 32 → D 5 j = hd_C j) (hsn : ∀ j, j < 32 → D 6 j = hd_S j) (hwi : ∀ j, j < 32 → D 7 j = hd_W j) : ex_Met l yDe_power wDe_power ({ frames := 6, cells := 1, slots := 6, locals := 100 }) (va_Pc [.ref (b 0), .int f9, .int k9] (ct_pre (dC, dI) (de_ty k) ev_D (wd k b P I D) sz)) (va_Qd (fun r (u : Nat → UInt64) => ∃ j, j < hd_nf ns ∧ f9 = nI j ∧ ∃ q, 0 ≤ q ∧ q ≤ 16 ∧ k9 = nI q ∧ r = hd_P (D 1) j q) (fun u t => ct_at (dC, dI) (va_A (wd k b P I D) sz) ((fun u => wd k b P I (us D 2 u)) u) t) (va_A (wd k b P I D) sz)) (ct_X (dC, dI) (va_A (wd k b P I D) sz) (fun E (u : Nat → UInt64) => u = D 2 ∧ ((E = th_IO ∧ ¬ ∃ j, j < hd_nf ns ∧ f9 = nI j) ∨ (E = th_IA ∧ (∃ j, j < hd_nf ns ∧ f9 = nI j) ∧ ¬ ∃ q, 0 ≤ q ∧ q ≤ 16 ∧ k9 = nI q))) (fun u => wd k b P I (us D 2 u))) 1 6 (va_A (wd k b P I D) sz) := by
  refine ex_met (cc := cDe_power) (maxL := 3) (ret := (some .double)) (by decide) rfl ?_
  intro p e s m args below meth c s₁ B hml htab hv
  obtain ⟨rfl, hsz, hP, hK, hD0, hE⟩ := hv
  have hx := B.exec
  have hb := B.bytes
  have hr := B.returns
  have hts : ∀ w ∈ W0, w.before [.ref (b 0), .int f9, .int k9].toArray s = true := fun w h => atoms_spec (ws := wDe_power) B.pre w (List.mem_cons_of_mem _ h)
  have hown : s.vm.findClass RDe = some m.cls := findClass_of_methodNamed B.named
  have hlocks := B.notSynchronized
  subst hsz
  have hP0 := hP
  have hD := hD0.self (sz := s.heap.size)
  generalize hAe : va_A (wd k b P I D) s.heap.size = A at hD ⊢
  have hA : ∀ q : Nat, s.heap.size ≤ q → A q := fun q h => by rw [← hAe]; exact Or.inr h
  have hS : va_S A s.heap s.heap [] := va_S.rf
  have hl := lv_entry ([.ref (b 0), .int f9, .int k9]) (n := 3) (Nat.le_of_ble_eq_true rfl)
  rw [lg_entry_eq]
  generalize (lg_sl ([.ref (b 0), .int f9, .int k9]) ++ List.replicate (3 - (lg_sl ([.ref (b 0), .int f9, .int k9])).length) Slot.unset).toArray = ls at hl ⊢
  have hl : lv_has ls 3 [(0, .ref (b 0)), (1, .int f9), (2, .int k9)] := hl
  have hnf := nf_le hn
  refine lv_iload_n hx hb dDe_power_0 rfl (lv_at hl 1 rfl) ?_
  refine lv_if_lt (tgt := 15) hx hb dDe_power_1 (by decide) (fun c1 => ?_) (fun c1 => ?_)
  · rw [← us_id D 2] at hP hD
    exact th_throw hx hb hln (cls := th_IO) (text := "there is no such frame") hown hP0 hAe hts hE.2 (by decide +kernel) t3_77_134 th_IO_w (hl.1.trans hml.symm) htab dDe_power_15 dDe_power_18 dDe_power_19 dDe_power_21 dDe_power_24 hlocks (D 2) (⟨rfl, Or.inl ⟨rfl, by first | (exact dj_lo (by omega) c1) | (exact dj_hi (by omega) c12)⟩⟩) hP hD hS (Nat.le_of_ble_eq_true rfl) (Nat.le_of_ble_eq_true rfl) (Nat.le_of_ble_eq_true rfl) (Nat.le_of_ble_eq_true rfl) (Nat.le_refl _) (Nat.le_refl _)
  · refine lv_iload_n hx hb dDe_power_4 rfl (lv_at hl 1 rfl) ?_
    refine lv_aload_n hx hb dDe_power_5 rfl (lv_at hl 0 rfl) ?_
    refine va_get (D := (dC, dI)) (ci := 7) (v := .ref (b 7)) (C := RDe) (T := TDe) (N := 10) hx hb hts inDe hown hK hP 0 rfl rfl 2 (by decide) (hts _ tw_194) (fun _ h9 => h9) rfl dDe_power_6 ?_
    refine ct_i (va_runV (As := []) (rest := [.int f9]) ⟨hx, hb, hml, hown, hts⟩ (kSo_frames l dC dI k b P I D _ ns hn h4) (cwV 0 hts (gw_V tw_446 tw_447 tw_448 tw_4 tw_449) rfl rfl rfl (by decide +kernel) ⟨Nat.le_of_ble_eq_true rfl, Nat.le_of_ble_eq_true rfl⟩) ⟨ct_blind (ev := (fun _ => True)) (fun _ _ _ _ h => h), va_recv hK hP (ci := 3) (q0 := 7) rfl rfl, ct_now (ev := (fun _ => True)) (fun _ _ _ => trivial) hP hK hD⟩ rfl rfl hl.1 rfl (lv_room (Nat.le_of_ble_eq_true rfl)) dDe_power_9 ⟨Nat.le_of_ble_eq_true rfl, Nat.le_of_ble_eq_true rfl⟩) hD hS hA (fun r1 u1 H locs hw1 hP hD hS => ?_)
    subst hw1
    have hnf := nf_le hn
    refine lv_icmp_lt (tgt := 25) hx hb dDe_power_12 (by decide) (fun c12 => ?_) (fun c12 => ?_)
    · obtain ⟨j, hj, rfl⟩ := dj_in (by omega) c1 c12
      have hj2 := nf_lt hj
      refine lv_iload_n hx hb dDe_power_25 rfl (lv_at hl 2 rfl) ?_
      refine lv_if_lt (tgt := 35) hx hb dDe_power_26 (by decide) (fun c26 => ?_) (fun c26 => ?_)
      · rw [← us_id D 2] at hP hD
        exact th_throw hx hb hln (cls := th_IA) (text := "frequencies are 0 to 16") hown hP0 hAe hts hE.2 (by decide +kernel) t3_67_136 th_IA_w (hl.1.trans hml.symm) htab dDe_power_35 dDe_power_38 dDe_power_39 dDe_power_41 dDe_power_44 hlocks (D 2) (⟨rfl, Or.inr ⟨rfl, ⟨j, hj, rfl⟩, by first | (exact dn_lo (a := 0) (by decide) (by decide) c26) | (exact dn_hi (by decide) c32)⟩⟩) hP hD hS (Nat.le_of_ble_eq_true rfl) (Nat.le_of_ble_eq_true rfl) (Nat.le_of_ble_eq_true rfl) (Nat.le_of_ble_eq_true rfl) (Nat.le_refl _) (Nat.le_refl _)
      · refine lv_iload_n hx hb dDe_power_29 rfl (lv_at hl 2 rfl) ?_
        refine lv_bipush (v := nI 16) hx hb dDe_power_30 (by decide +kernel) ?_
        refine lv_icmp_le (tgt := 45) hx hb dDe_power_32 (by decide) (fun c32 => ?_) (fun c32 => ?_)
        · obtain ⟨q, q1, q2, rfl⟩ := dn_in (a := 0) (c := 16) (by decide) (by decide) c26 c32
          refine lv_aload_n hx hb dDe_power_45 rfl (lv_at hl 0 rfl) ?_
          refine va_get (D := (dC, dI)) (ci := 7) (v := .ref (b 7)) (C := RDe) (T := TDe) (N := 10) hx hb hts inDe hown hK hP 0 rfl rfl 2 (by decide) (hts _ tw_194) (fun _ h9 => h9) rfl dDe_power_46 ?_
          refine lv_iload_n hx hb dDe_power_49 rfl (lv_at hl 1 rfl) ?_
          refine ct_v (va_runV (As := [.int (nI j)]) (rest := []) ⟨hx, hb, hml, hown, hts⟩ (kSo_weigh l dC dI k b P I D _ j (by omega) (fun i hi => hsm _ (by omega)) hwi) (cwV 1 hts (gw_V tw_452 tw_453 tw_454 tw_4 tw_455) rfl rfl rfl (by decide +kernel) ⟨Nat.le_of_ble_eq_true rfl, Nat.le_of_ble_eq_true rfl⟩) ⟨ct_blind (ev := ev_N) ev_N.blind, va_recv hK hP (ci := 3) (q0 := 7) rfl rfl, ct_now (ev := ev_N) (fun U _ hW => hE.1.warm hW) hP hK hD⟩ rfl rfl hl.1 rfl (lv_room (Nat.le_of_ble_eq_true rfl)) dDe_power_50 ⟨Nat.le_of_ble_eq_true rfl, Nat.le_of_ble_eq_true rfl⟩) hD hS hA (fun u2 H locs hw2 hP hD hS => ?_)
          have hv0 := hw2
          refine lv_aload_n hx hb dDe_power_53 rfl (lv_at hl 0 rfl) ?_
          refine va_get (D := (dC, dI)) (ci := 7) (v := .ref (b 7)) (C := RDe) (T := TDe) (N := 10) hx hb hts inDe hown hK hP 0 rfl rfl 2 (by decide) (hts _ tw_194) (fun _ h9 => h9) rfl dDe_power_54 ?_
          refine lv_iload_n hx hb dDe_power_57 rfl (lv_at hl 2 rfl) ?_
          refine ct_d (va_runV (As := [.int (nI q)]) (rest := []) ⟨hx, hb, hml, hown, hts⟩ (kSo_strength l dC dI k b P I (us D 2 u2) _ j q (D 1) q2 (fun i hi => hsm _ (by omega)) (fun i hi => by rw [us_c]; exact hv0 i hi) (fun i hi => by rw [us_o _ _ (by decide)]; exact hc i hi) (fun i hi => by rw [us_o _ _ (by decide)]; exact hsn i hi)) (cwV 1 hts (gw_V tw_457 tw_458 tw_459 tw_4 tw_460) rfl rfl rfl (by decide +kernel) ⟨Nat.le_of_ble_eq_true rfl, Nat.le_of_ble_eq_true rfl⟩) ⟨ct_blind (ev := ev_N) ev_N.blind, va_recv hK hP (ci := 3) (q0 := 7) rfl rfl, ct_now (ev := ev_N) (fun U _ hW => hE.1.warm hW) hP hK hD⟩ rfl rfl hl.1 rfl (lv_room (Nat.le_of_ble_eq_true rfl)) dDe_power_58 ⟨Nat.le_of_ble_eq_true rfl, Nat.le_of_ble_eq_true rfl⟩) hD hS hA (fun r3 u3 H locs hw3 hP hD hS => ?_)
          subst hw3
          exact ex_ret (ct_rd hx hb hr hlocks u2 (⟨j, hj, rfl, q, q1, q2, rfl, rfl⟩) hP hD hS (Nat.zero_le _) (Nat.zero_le _) dDe_power_61)
        · rw [← us_id D 2] at hP hD
          exact th_throw hx hb hln (cls := th_IA) (text := "frequencies are 0 to 16") hown hP0 hAe hts hE.2 (by decide +kernel) t3_67_136 th_IA_w (hl.1.trans hml.symm) htab dDe_power_35 dDe_power_38 dDe_power_39 dDe_power_41 dDe_power_44 hlocks (D 2) (⟨rfl, Or.inr ⟨rfl, ⟨j, hj, rfl⟩, by first | (exact dn_lo (a := 0) (by decide) (by decide) c26) | (exact dn_hi (by decide) c32)⟩⟩) hP hD hS (Nat.le_of_ble_eq_true rfl) (Nat.le_of_ble_eq_true rfl) (Nat.le_of_ble_eq_true rfl) (Nat.le_of_ble_eq_true rfl) (Nat.le_refl _) (Nat.le_refl _)
    · rw [← us_id D 2] at hP hD
      exact th_throw hx hb hln (cls := th_IO) (text := "there is no such frame") hown hP0 hAe hts hE.2 (by decide +kernel) t3_77_134 th_IO_w (hl.1.trans hml.symm) htab dDe_power_15 dDe_power_18 dDe_power_19 dDe_power_21 dDe_power_24 hlocks (D 2) (⟨rfl, Or.inl ⟨rfl, by first | (exact dj_lo (by omega) c1) | (exact dj_hi (by omega) c12)⟩⟩) hP hD hS (Nat.le_of_ble_eq_true rfl) (Nat.le_of_ble_eq_true rfl) (Nat.le_of_ble_eq_true rfl) (Nat.le_of_ble_eq_true rfl) (Nat.le_refl _) (Nat.le_refl _)
set_option maxHeartbeats 4000000 in
set_option maxRecDepth 100000 in
theorem kDe_level (l : Launch) (hln : l.stackTraces = false) (dC : Nat → ClassId) (dI : Nat → Nat → Nat) (k : Nat → ClassId) (b P : Nat → Nat) (I : Nat → Nat → Int32) (D : Nat → Nat → UInt64) (sz : Nat) (f9 k9 : Int32) (ns : Nat) (hn : ns ≤ 320) (h4 : I 0 4 = nI ns) (hsm : ∀ i, i < ns → fb_ 1057 (D 1 i)) (hc : ∀ j, j < 32 → D 5 j = hd_C j) (hsn : ∀ j, j < 32 → D 6 j = hd_S j) (hwi : ∀ j, j < 32 → D 7 j = hd_W j) (jd9 : Nat) (hjd : jd9 ≤ hd_nf ns) (h5 : I 0 5 = nI jd9) (hj3 : ∀ q, q < 4 * jd9 → D 3 q = hw_su (D 1) q) (hj4 : ∀ q, q < 4 * jd9 → D 4 q = hw_lv (D 1) 0 q) : ex_Met l yDe_level wDe_level ({ frames := 6, cells := 1, slots := 6, locals := 100 }) (va_Pc [.ref (b 0), .int f9, .int k9] (ct_pre (dC, dI) (de_ty k) ev_D (wd k b P I D) sz)) (va_Qd (fun r (u : (Nat → Nat → Int32) × (Nat → Nat → UInt64)) => (∃ j, j < hd_nf ns ∧ f9 = nI j ∧ ∃ q, 0 ≤ q ∧ q ≤ 3 ∧ k9 = nI q ∧ r = hd_lev (D 1) j q) ∧ u.1 = ui I 0 5 (nI (hd_nf ns)) ∧ (∀ c, c ≠ 2 → c ≠ 3 → c ≠ 4 → u.2 c = D c) ∧ (∀ q, q < 4 * hd_nf ns → u.2 3 q = hw_su (D 1) q) ∧ (∀ q, q < 4 * hd_nf ns → u.2 4 q = hw_lv (D 1) 0 q)) (fun u t => ct_at (dC, dI) (va_A (wd k b P I D) sz) ((fun u => wd k b P u.1 u.2) u) t) (va_A (wd k b P I D) sz)) (ct_X (dC, dI) (va_A (wd k b P I D) sz) (fun E (u : (Nat → Nat → Int32) × (Nat → Nat → UInt64)) => u = (I, D) ∧ ((E = th_IO ∧ ¬ ∃ j, j < hd_nf ns ∧ f9 = nI j) ∨ (E = th_IA ∧ (∃ j, j < hd_nf ns ∧ f9 = nI j) ∧ ¬ ∃ q, 0 ≤ q ∧ q ≤ 3 ∧ k9 = nI q))) (fun u => wd k b P u.1 u.2)) 1 6 (va_A (wd k b P I D) sz) := by
  refine ex_met (cc := cDe_level) (maxL := 3) (ret := (some .double)) (by decide) rfl ?_
  intro p e s m args below meth c s₁ B hml htab hv
  obtain ⟨rfl, hsz, hP, hK, hD0, hE⟩ := hv
  have hx := B.exec
  have hb := B.bytes
  have hr := B.returns
  have hts : ∀ w ∈ W0, w.before [.ref (b 0), .int f9, .int k9].toArray s = true := fun w h => atoms_spec (ws := wDe_level) B.pre w (List.mem_cons_of_mem _ h)
  have hown : s.vm.findClass RDe = some m.cls := findClass_of_methodNamed B.named
  have hlocks := B.notSynchronized
  subst hsz
  have hP0 := hP
  have hD := hD0.self (sz := s.heap.size)
  generalize hAe : va_A (wd k b P I D) s.heap.size = A at hD ⊢
  have hA : ∀ q : Nat, s.heap.size ≤ q → A q := fun q h => by rw [← hAe]; exact Or.inr h
  have hS : va_S A s.heap s.heap [] := va_S.rf
  have hl := lv_entry ([.ref (b 0), .int f9, .int k9]) (n := 3) (Nat.le_of_ble_eq_true rfl)
  rw [lg_entry_eq]
  generalize (lg_sl ([.ref (b 0), .int f9, .int k9]) ++ List.replicate (3 - (lg_sl ([.ref (b 0), .int f9, .int k9])).length) Slot.unset).toArray = ls at hl ⊢
  have hl : lv_has ls 3 [(0, .ref (b 0)), (1, .int f9), (2, .int k9)] := hl
  have hnf := nf_le hn
  refine lv_iload_n hx hb dDe_level_0 rfl (lv_at hl 1 rfl) ?_
  refine lv_if_lt (tgt := 15) hx hb dDe_level_1 (by decide) (fun c1 => ?_) (fun c1 => ?_)
  · exact th_throw hx hb hln (cls := th_IO) (text := "there is no such frame") hown hP0 hAe hts hE.2 (by decide +kernel) t3_77_134 th_IO_w (hl.1.trans hml.symm) htab dDe_level_15 dDe_level_18 dDe_level_19 dDe_level_21 dDe_level_24 hlocks (I, D) (⟨rfl, Or.inl ⟨rfl, by first | (exact dj_lo (by omega) c1) | (exact dj_hi (by omega) c12)⟩⟩) hP hD hS (Nat.le_of_ble_eq_true rfl) (Nat.le_of_ble_eq_true rfl) (Nat.le_of_ble_eq_true rfl) (Nat.le_of_ble_eq_true rfl) (Nat.le_refl _) (Nat.le_refl _)
  · refine lv_iload_n hx hb dDe_level_4 rfl (lv_at hl 1 rfl) ?_
    refine lv_aload_n hx hb dDe_level_5 rfl (lv_at hl 0 rfl) ?_
    refine va_get (D := (dC, dI)) (ci := 7) (v := .ref (b 7)) (C := RDe) (T := TDe) (N := 10) hx hb hts inDe hown hK hP 0 rfl rfl 2 (by decide) (hts _ tw_194) (fun _ h9 => h9) rfl dDe_level_6 ?_
    refine ct_i (va_runV (As := []) (rest := [.int f9]) ⟨hx, hb, hml, hown, hts⟩ (kSo_frames l dC dI k b P I D _ ns hn h4) (cwV 0 hts (gw_V tw_446 tw_447 tw_448 tw_4 tw_449) rfl rfl rfl (by decide +kernel) ⟨Nat.le_of_ble_eq_true rfl, Nat.le_of_ble_eq_true rfl⟩) ⟨ct_blind (ev := (fun _ => True)) (fun _ _ _ _ h => h), va_recv hK hP (ci := 3) (q0 := 7) rfl rfl, ct_now (ev := (fun _ => True)) (fun _ _ _ => trivial) hP hK hD⟩ rfl rfl hl.1 rfl (lv_room (Nat.le_of_ble_eq_true rfl)) dDe_level_9 ⟨Nat.le_of_ble_eq_true rfl, Nat.le_of_ble_eq_true rfl⟩) hD hS hA (fun r1 u1 H locs hw1 hP hD hS => ?_)
    subst hw1
    have hnf := nf_le hn
    refine lv_icmp_lt (tgt := 25) hx hb dDe_level_12 (by decide) (fun c12 => ?_) (fun c12 => ?_)
    · obtain ⟨j, hj, rfl⟩ := dj_in (by omega) c1 c12
      have hj2 := nf_lt hj
      refine lv_iload_n hx hb dDe_level_25 rfl (lv_at hl 2 rfl) ?_
      refine lv_if_lt (tgt := 34) hx hb dDe_level_26 (by decide) (fun c26 => ?_) (fun c26 => ?_)
      · exact th_throw hx hb hln (cls := th_IA) (text := "bands are 0 to 3") hown hP0 hAe hts hE.2 (by decide +kernel) t3_67_144 th_IA_w (hl.1.trans hml.symm) htab dDe_level_34 dDe_level_37 dDe_level_38 dDe_level_40 dDe_level_43 hlocks (I, D) (⟨rfl, Or.inr ⟨rfl, ⟨j, hj, rfl⟩, by first | (exact dn_lo (a := 0) (by decide) (by decide) c26) | (exact dn_hi (by decide) (fun y => c31 (dn_s (n := 3) (by decide) y)))⟩⟩) hP hD hS (Nat.le_of_ble_eq_true rfl) (Nat.le_of_ble_eq_true rfl) (Nat.le_of_ble_eq_true rfl) (Nat.le_of_ble_eq_true rfl) (Nat.le_refl _) (Nat.le_refl _)
      · refine lv_iload_n hx hb dDe_level_29 rfl (lv_at hl 2 rfl) ?_
        refine lv_iconst (v := nI 4) hx hb dDe_level_30 (by decide +kernel) ?_
        refine lv_icmp_lt (tgt := 44) hx hb dDe_level_31 (by decide) (fun c31 => ?_) (fun c31 => ?_)
        · obtain ⟨q, q1, q2, rfl⟩ := dn_in (a := 0) (c := 3) (by decide) (by decide) c26 (dn_p (n := 3) (by decide) c31)
          refine lv_aload_n hx hb dDe_level_44 rfl (lv_at hl 0 rfl) ?_
          refine va_get (D := (dC, dI)) (ci := 7) (v := .ref (b 7)) (C := RDe) (T := TDe) (N := 10) hx hb hts inDe hown hK hP 0 rfl rfl 2 (by decide) (hts _ tw_194) (fun _ h9 => h9) rfl dDe_level_45 ?_
          refine ct_v (va_runV (As := []) (rest := []) ⟨hx, hb, hml, hown, hts⟩ (kSo_judge l dC dI k b P I D _ ns hn h4 hsm hc hsn hwi jd9 hjd h5 hj3 hj4) (cwV 0 hts (gw_V tw_469 tw_470 tw_471 tw_4 tw_472) rfl rfl rfl (by decide +kernel) ⟨Nat.le_of_ble_eq_true rfl, Nat.le_of_ble_eq_true rfl⟩) ⟨ct_blind (ev := ev_N) ev_N.blind, va_recv hK hP (ci := 3) (q0 := 7) rfl rfl, ct_now (ev := ev_N) (fun U _ hW => hE.1.warm hW) hP hK hD⟩ rfl rfl hl.1 rfl (lv_room (Nat.le_of_ble_eq_true rfl)) dDe_level_48 ⟨Nat.le_of_ble_eq_true rfl, Nat.le_of_ble_eq_true rfl⟩) hD hS hA (fun u2 H locs hw2 hP hD hS => ?_)
          obtain ⟨hE1, hE3, hE4⟩ := hw2
          obtain ⟨I9, eI9⟩ : ∃ z, z = ui I 0 5 (nI (hd_nf ns)) := ⟨_, rfl⟩
          rw [← eI9] at hP hD
          refine lv_aload_n hx hb dDe_level_51 rfl (lv_at hl 0 rfl) ?_
          refine va_get (D := (dC, dI)) (ci := 7) (v := .ref (b 7)) (C := RDe) (T := TDe) (N := 10) hx hb hts inDe hown hK hP 0 rfl rfl 2 (by decide) (hts _ tw_194) (fun _ h9 => h9) rfl dDe_level_52 ?_
          refine va_getN (D := (dC, dI)) (ci := 3) (v := .ref (b 11)) (C := RSo) (T := TSo) (N := 7) hx hb hts inSo hown hK hP 7 rfl rfl 4 (by decide) (va_Nw.use rfl (hE.1 _ en_81)) (fun _ h9 => h9) rfl dDe_level_55 ?_
          refine lv_iload_n hx hb dDe_level_58 rfl (lv_at hl 1 rfl) ?_
          refine lv_iconst (v := nI 4) hx hb dDe_level_59 (by decide +kernel) ?_
          refine lv_imul hx hb dDe_level_60 ?_
          refine rw_i (y := nI (j * 4)) (pk_mul _ _) ?_
          refine lv_iload_n hx hb dDe_level_61 rfl (lv_at hl 2 rfl) ?_
          refine lv_iadd hx hb dDe_level_62 ?_
          refine rw_i (y := nI ((j * 4) + q)) (nI_add _ _) ?_
          refine rw_ald_d hx hb hK hP 11 1 rfl rfl (by omega) (by decide) dDe_level_63 ?_
          refine rw_d (y := hd_lev (D 1) j q) ((hE4 _ (by omega)).trans ((congrArg (hw_lv (D 1) 0) (by omega)).trans (hw_lv_0 (D 1) j q (by omega)))) ?_
          exact ex_ret (ct_rd hx hb hr hlocks (I9, u2) (⟨⟨j, hj, rfl, q, q1, q2, rfl, rfl⟩, eI9, hE1, hE3, hE4⟩) hP hD hS (Nat.zero_le _) (Nat.zero_le _) dDe_level_64)
        · exact th_throw hx hb hln (cls := th_IA) (text := "bands are 0 to 3") hown hP0 hAe hts hE.2 (by decide +kernel) t3_67_144 th_IA_w (hl.1.trans hml.symm) htab dDe_level_34 dDe_level_37 dDe_level_38 dDe_level_40 dDe_level_43 hlocks (I, D) (⟨rfl, Or.inr ⟨rfl, ⟨j, hj, rfl⟩, by first | (exact dn_lo (a := 0) (by decide) (by decide) c26) | (exact dn_hi (by decide) (fun y => c31 (dn_s (n := 3) (by decide) y)))⟩⟩) hP hD hS (Nat.le_of_ble_eq_true rfl) (Nat.le_of_ble_eq_true rfl) (Nat.le_of_ble_eq_true rfl) (Nat.le_of_ble_eq_true rfl) (Nat.le_refl _) (Nat.le_refl _)
    · exact th_throw hx hb hln (cls := th_IO) (text := "there is no such frame") hown hP0 hAe hts hE.2 (by decide +kernel) t3_77_134 th_IO_w (hl.1.trans hml.symm) htab dDe_level_15 dDe_level_18 dDe_level_19 dDe_level_21 dDe_level_24 hlocks (I, D) (⟨rfl, Or.inl ⟨rfl, by first | (exact dj_lo (by omega) c1) | (exact dj_hi (by omega) c12)⟩⟩) hP hD hS (Nat.le_of_ble_eq_true rfl) (Nat.le_of_ble_eq_true rfl) (Nat.le_of_ble_eq_true rfl) (Nat.le_of_ble_eq_true rfl) (Nat.le_refl _) (Nat.le_refl _)
set_option maxHeartbeats 4000000 in
set_option maxRecDepth 100000 in
theorem kDe_loudFrames (l : Launch) (dC : Nat → ClassId) (dI : Nat → Nat → Nat) (k : Nat → ClassId) (b P : Nat → Nat) (I : Nat → Nat → Int32) (D : Nat → Nat → UInt64) (sz : Nat) (ns : Nat) (hn : ns ≤ 320) (h4 : I 0 4 = nI ns) (hsm : ∀ i, i < ns → fb_ 1057 (D 1 i)) (hc : ∀ j, j < 32 → D 5 j = hd_C j) (hsn : ∀ j, j < 32 → D 6 j = hd_S j) (hwi : ∀ j, j < 32 → D 7 j = hd_W j) (jd9 : Nat) (hjd : jd9 ≤ hd_nf ns) (h5 : I 0 5 = nI jd9) (hj3 : ∀ q, q < 4 * jd9 → D 3 q = hw_su (D 1) q) (hj4 : ∀ q, q < 4 * jd9 → D 4 q = hw_lv (D 1) 0 q) : Met l yDe_loudFrames wDe_loudFrames ({ frames := 4, cells := 0, slots := 0, locals := 100 }) (va_Pc [.ref (b 0)] (ct_pre (dC, dI) (de_ty k) ev_N (wd k b P I D) sz)) (va_Qi (fun r (u : (Nat → Nat → Int32) × (Nat → Nat → UInt64)) => r = nI (ld_cnt (D 1) (D 0 0) (hd_nf ns)) ∧ u.1 = ui I 0 5 (nI (hd_nf ns)) ∧ (∀ c, c ≠ 2 → c ≠ 3 → c ≠ 4 → u.2 c = D c) ∧ (∀ q, q < 4 * hd_nf ns → u.2 3 q = hw_su (D 1) q) ∧ (∀ q, q < 4 * hd_nf ns → u.2 4 q = hw_lv (D 1) 0 q)) (fun u t => ct_at (dC, dI) (va_A (wd k b P I D) sz) ((fun u => wd k b P u.1 u.2) u) t) (va_A (wd k b P I D) sz)) 0 0 (va_A (wd k b P I D) sz) := by
  refine Met.ofW (cc := cDe_loudFrames) (maxL := 3) (ret := (some .int)) (by decide) rfl ?_
  intro p e s m args below meth c s₁ B hml hv
  obtain ⟨rfl, hsz, hP, hK, hD0, hE⟩ := hv
  have hx := B.exec
  have hb := B.bytes
  have hr := B.returns
  have hts : ∀ w ∈ W0, w.before [.ref (b 0)].toArray s = true := fun w h => atoms_spec (ws := wDe_loudFrames) B.pre w (List.mem_cons_of_mem _ h)
  have hown : s.vm.findClass RDe = some m.cls := findClass_of_methodNamed B.named
  have hlocks := B.notSynchronized
  subst hsz
  have hP0 := hP
  have hD := hD0.self (sz := s.heap.size)
  generalize hAe : va_A (wd k b P I D) s.heap.size = A at hD ⊢
  have hA : ∀ q : Nat, s.heap.size ≤ q → A q := fun q h => by rw [← hAe]; exact Or.inr h
  have hS : va_S A s.heap s.heap [] := va_S.rf
  have hl := lv_entry ([.ref (b 0)]) (n := 3) (Nat.le_of_ble_eq_true rfl)
  rw [lg_entry_eq]
  generalize (lg_sl ([.ref (b 0)]) ++ List.replicate (3 - (lg_sl ([.ref (b 0)])).length) Slot.unset).toArray = ls at hl ⊢
  have hl : lv_has ls 3 [(0, .ref (b 0))] := hl
  refine lp_q (fun Q9 hQ9 => ?_)
  refine lv_aload_n hx hb dDe_loudFrames_0 rfl (lv_at hl 0 rfl) ?_
  refine va_get (D := (dC, dI)) (ci := 7) (v := .ref (b 7)) (C := RDe) (T := TDe) (N := 10) hx hb hts inDe hown hK hP 0 rfl rfl 2 (by decide) (hts _ tw_194) (fun _ h9 => h9) rfl dDe_loudFrames_1 ?_
  refine ct_v (va_runV (As := []) (rest := []) ⟨hx, hb, hml, hown, hts⟩ (kSo_judge l dC dI k b P I D _ ns hn h4 hsm hc hsn hwi jd9 hjd h5 hj3 hj4) (cwV 0 hts (gw_V tw_469 tw_470 tw_471 tw_4 tw_472) rfl rfl rfl (by decide +kernel) ⟨Nat.le_of_ble_eq_true rfl, Nat.le_of_ble_eq_true rfl⟩) ⟨ct_blind (ev := ev_N) ev_N.blind, va_recv hK hP (ci := 3) (q0 := 7) rfl rfl, ct_now (ev := ev_N) (fun U _ hW => hE.warm hW) hP hK hD⟩ rfl rfl hl.1 rfl (lv_room (Nat.le_of_ble_eq_true rfl)) dDe_loudFrames_4 ⟨Nat.le_of_ble_eq_true rfl, Nat.le_of_ble_eq_true rfl⟩) hD hS hA (fun u1 H locs hw1 hP hD hS => ?_)
  obtain ⟨hE1, hE3, hE4⟩ := hw1
  obtain ⟨I9, eI9⟩ : ∃ z, z = ui I 0 5 (nI (hd_nf ns)) := ⟨_, rfl⟩
  rw [← eI9] at hP hD
  refine lv_iconst (v := nI 0) hx hb dDe_loudFrames_7 (by decide +kernel) ?_
  refine lv_istore_n (lv' := [(1, .int (nI 0)), (0, .ref (b 0))]) hx hb dDe_loudFrames_8 rfl hl (by decide) rfl (fun ls hl => ?_)
  refine lv_iconst (v := nI 0) hx hb dDe_loudFrames_9 (by decide +kernel) ?_
  refine lv_istore_n (lv' := [(2, .int (nI 0)), (1, .int (nI 0)), (0, .ref (b 0))]) hx hb dDe_loudFrames_10 rfl hl (by decide) rfl (fun ls hl => ?_)
  have L11 : ∀ (n11 : Nat) (f : Nat), hd_nf ns - f < n11 → f ≤ hd_nf ns → ∀ (H : Heap) (locs : List Loc), va_P (dC, dI) vwCl (wd k b P I9 u1) H → va_D A (wd k b P I9 u1) → va_S A s.heap H locs → ∀ ls : Array Slot, lv_has ls 3 [(0, .ref (b 0)), (1, .int (nI (ld_cnt (D 1) (D 0 0) f))), (2, .int (nI f))] → W p l e (headSpec wDe_loudFrames ({ frames := 4, cells := 0, slots := 0, locals := 100 })).room s m [.ref (b 0)].toArray below meth c H locs 0 0 Q9 (F0 m 11 ls []) := by
    intro n11
    induction n11 with
    | zero => intro f hm; exact absurd hm (Nat.not_lt_zero _)
    | succ n11 ih11 =>
      intro f hm11 hf H locs hP hD hS ls hl
      refine lv_iload_n hx hb dDe_loudFrames_11 rfl (lv_at hl 2 rfl) ?_
      refine lv_aload_n hx hb dDe_loudFrames_12 rfl (lv_at hl 0 rfl) ?_
      refine va_get (D := (dC, dI)) (ci := 7) (v := .ref (b 7)) (C := RDe) (T := TDe) (N := 10) hx hb hts inDe hown hK hP 0 rfl rfl 2 (by decide) (hts _ tw_194) (fun _ h9 => h9) rfl dDe_loudFrames_13 ?_
      refine ct_i (va_runV (As := []) (rest := [.int (nI f)]) ⟨hx, hb, hml, hown, hts⟩ (kSo_frames l dC dI k b P I9 u1 _ ns hn (by rw [eI9, ui_n _ _ _ (by decide)]; exact h4)) (cwV 0 hts (gw_V tw_446 tw_447 tw_448 tw_4 tw_449) rfl rfl rfl (by decide +kernel) ⟨Nat.le_of_ble_eq_true rfl, Nat.le_of_ble_eq_true rfl⟩) ⟨ct_blind (ev := (fun _ => True)) (fun _ _ _ _ h => h), va_recv hK hP (ci := 3) (q0 := 7) rfl rfl, ct_now (ev := (fun _ => True)) (fun _ _ _ => trivial) hP hK hD⟩ rfl rfl hl.1 rfl (lv_room (Nat.le_of_ble_eq_true rfl)) dDe_loudFrames_16 ⟨Nat.le_of_ble_eq_true rfl, Nat.le_of_ble_eq_true rfl⟩) hD hS hA (fun r2 u2 H locs hw2 hP hD hS => ?_)
      subst hw2
      have hnf := nf_le hn
      refine lv_icmp_ge (tgt := 47) hx hb dDe_loudFrames_19 (by decide) (fun c19 => ?_) (fun c19 => ?_)
      · have c19 : (hd_nf ns) ≤ f := (nI_leI (a := (hd_nf ns)) (b := f) (by omega) (by omega)).mp (show nI (hd_nf ns) ≤ nI f from c19)
        refine lv_iload_n hx hb dDe_loudFrames_47 rfl (lv_at hl 1 rfl) ?_
        rw [hQ9]
        exact ct_ri hx hb hr hlocks (I9, u1) (⟨by rw [show hd_nf ns = f by omega], eI9, hE1, hE3, hE4⟩) hP hD hS (Nat.le_refl _) (Nat.le_refl _) dDe_loudFrames_48
      · have c19 : ¬ (hd_nf ns) ≤ f := fun q9 => c19 (show nI (hd_nf ns) ≤ nI f from (nI_leI (a := (hd_nf ns)) (b := f) (by omega) (by omega)).mpr q9)
        refine lv_aload_n hx hb dDe_loudFrames_22 rfl (lv_at hl 0 rfl) ?_
        refine va_get (D := (dC, dI)) (ci := 7) (v := .ref (b 7)) (C := RDe) (T := TDe) (N := 10) hx hb hts inDe hown hK hP 0 rfl rfl 2 (by decide) (hts _ tw_194) (fun _ h9 => h9) rfl dDe_loudFrames_23 ?_
        refine lv_iload_n hx hb dDe_loudFrames_26 rfl (lv_at hl 2 rfl) ?_
        have hfi := nf_lt (n := ns) (j := f) (by omega)
        refine ct_d (va_runV (As := [.int (nI f)]) (rest := []) ⟨hx, hb, hml, hown, hts⟩ (kSo_loudness l dC dI k b P I9 u1 _ f (D 1) (by omega) (fun i hi => hsm _ (by omega)) (fun j hj => (hE3 _ (by omega)).trans (hw_su_e (D 1) f j hj))) (cwV 1 hts (gw_V tw_636 tw_591 tw_592 tw_4 tw_593) rfl rfl rfl (by decide +kernel) ⟨Nat.le_of_ble_eq_true rfl, Nat.le_of_ble_eq_true rfl⟩) ⟨ct_blind (ev := (fun _ => True)) (fun _ _ _ _ h => h), va_recv hK hP (ci := 3) (q0 := 7) rfl rfl, ct_now (ev := (fun _ => True)) (fun _ _ _ => trivial) hP hK hD⟩ rfl rfl hl.1 rfl (lv_room (Nat.le_of_ble_eq_true rfl)) dDe_loudFrames_27 ⟨Nat.le_of_ble_eq_true rfl, Nat.le_of_ble_eq_true rfl⟩) hD hS hA (fun r3 u3 H locs hw3 hP hD hS => ?_)
        subst hw3
        refine lv_aload_n hx hb dDe_loudFrames_30 rfl (lv_at hl 0 rfl) ?_
        refine va_get (D := (dC, dI)) (ci := 7) (v := .double (u1 0 0)) (C := RDe) (T := TDe) (N := 10) hx hb hts inDe hown hK hP 0 rfl rfl 7 (by decide) (hts _ tw_199) (fun _ h9 => h9) rfl dDe_loudFrames_31 ?_
        refine rw_d (y := D 0 0) (by rw [hE1 0 (by decide) (by decide) (by decide)]) ?_
        refine lv_dcmp hx hb dDe_loudFrames_34 ?_
        refine lv_if_lt (tgt := 41) hx hb dDe_loudFrames_35 (by decide) (fun c35 => ?_) (fun c35 => ?_)
        · have g9 := ld_0 c35
          rw [← ld_s0 g9] at hl
          refine lv_iinc (v := nI (f + 1)) (lv' := [(2, .int (nI (f + 1))), (0, .ref (b 0)), (1, .int (nI (ld_cnt (D 1) (D 0 0) (f + 1))))]) hx hb dDe_loudFrames_41 hl (k := 2) rfl (nI_1 _) (by decide) rfl (fun ls hl => ?_)
          refine lv_goto (tgt := 11) hx hb dDe_loudFrames_44 (by decide) ?_
          exact ih11 (f + 1) (by omega) (by omega) _ _ hP hD hS ls (lv_sub hl [1, 2, 0] rfl)
        · have g9 := ld_1 c35
          refine lv_iinc (v := nI (ld_cnt (D 1) (D 0 0) (f + 1))) (lv' := [(1, .int (nI (ld_cnt (D 1) (D 0 0) (f + 1)))), (0, .ref (b 0)), (2, .int (nI f))]) hx hb dDe_loudFrames_38 hl (k := 1) rfl ((nI_1 _).trans (by rw [ld_s1 g9])) (by decide) rfl (fun ls hl => ?_)
          refine lv_iinc (v := nI (f + 1)) (lv' := [(2, .int (nI (f + 1))), (1, .int (nI (ld_cnt (D 1) (D 0 0) (f + 1)))), (0, .ref (b 0))]) hx hb dDe_loudFrames_41 hl (k := 2) rfl (nI_1 _) (by decide) rfl (fun ls hl => ?_)
          refine lv_goto (tgt := 11) hx hb dDe_loudFrames_44 (by decide) ?_
          exact ih11 (f + 1) (by omega) (by omega) _ _ hP hD hS ls (lv_sub hl [2, 1, 0] rfl)
  exact L11 _ 0 (Nat.lt_succ_self _) (by omega) _ _ hP hD hS ls (lv_sub hl [2, 1, 0] rfl)
set_option maxHeartbeats 4000000 in
set_option maxRecDepth 100000 in
theorem kDe_count (l : Launch) (hln : l.stackTraces = false) (dC : Nat → ClassId) (dI : Nat → Nat → Nat) (k : Nat → ClassId) (b P : Nat → Nat) (I : Nat → Nat → Int32) (D : Nat → Nat → UInt64) (sz : Nat) (wh : Int32) (ns : Nat) (hn : ns ≤ 320) (h4 : I 0 4 = nI ns) (hsm : ∀ i, i < ns → fb_ 1057 (D 1 i)) (hc : ∀ j, j < 32 → D 5 j = hd_C j) (hsn : ∀ j, j < 32 → D 6 j = hd_S j) (hwi : ∀ j, j < 32 → D 7 j = hd_W j) (jd9 : Nat) (hjd : jd9 ≤ hd_nf ns) (h5 : I 0 5 = nI jd9) (hj3 : ∀ q, q < 4 * jd9 → D 3 q = hw_su (D 1) q) (hj4 : ∀ q, q < 4 * jd9 → D 4 q = hw_lv (D 1) 0 q) : ex_Met l yDe_count wDe_count ({ frames := 6, cells := 1, slots := 6, locals := 122 }) (va_Pc [.ref (b 0), .int wh] (ct_pre (dC, dI) (de_ty k) ev_D (wd k b P I D) sz)) (va_Qi (fun r (u : (Nat → Nat → Int32) × (Nat → Nat → UInt64)) => ∃ q, 0 ≤ q ∧ q ≤ 6 ∧ wh = nI q ∧ r = dk_ct I (D 1) (D 0 0) ns q ∧ (u = (I, D) ∨ (u.1 = ui I 0 5 (nI (hd_nf ns)) ∧ (∀ c, c ≠ 2 → c ≠ 3 → c ≠ 4 → u.2 c = D c) ∧ (∀ q, q < 4 * hd_nf ns → u.2 3 q = hw_su (D 1) q) ∧ (∀ q, q < 4 * hd_nf ns → u.2 4 q = hw_lv (D 1) 0 q)))) (fun u t => ct_at (dC, dI) (va_A (wd k b P I D) sz) ((fun u => wd k b P u.1 u.2) u) t) (va_A (wd k b P I D) sz)) (ct_X (dC, dI) (va_A (wd k b P I D) sz) (fun E (u : (Nat → Nat → Int32) × (Nat → Nat → UInt64)) => u = (I, D) ∧ E = th_IA ∧ ¬ ∃ q, 0 ≤ q ∧ q ≤ 6 ∧ wh = nI q) (fun u => wd k b P u.1 u.2)) 1 6 (va_A (wd k b P I D) sz) := by
  refine ex_met (cc := cDe_count) (maxL := 2) (ret := (some .int)) (by decide) rfl ?_
  intro p e s m args below meth c s₁ B hml htab hv
  obtain ⟨rfl, hsz, hP, hK, hD0, hE⟩ := hv
  have hx := B.exec
  have hb := B.bytes
  have hr := B.returns
  have hts : ∀ w ∈ W0, w.before [.ref (b 0), .int wh].toArray s = true := fun w h => atoms_spec (ws := wDe_count) B.pre w (List.mem_cons_of_mem _ h)
  have hown : s.vm.findClass RDe = some m.cls := findClass_of_methodNamed B.named
  have hlocks := B.notSynchronized
  subst hsz
  have hP0 := hP
  have hD := hD0.self (sz := s.heap.size)
  generalize hAe : va_A (wd k b P I D) s.heap.size = A at hD ⊢
  have hA : ∀ q : Nat, s.heap.size ≤ q → A q := fun q h => by rw [← hAe]; exact Or.inr h
  have hS : va_S A s.heap s.heap [] := va_S.rf
  have hl := lv_entry ([.ref (b 0), .int wh]) (n := 2) (Nat.le_of_ble_eq_true rfl)
  rw [lg_entry_eq]
  generalize (lg_sl ([.ref (b 0), .int wh]) ++ List.replicate (2 - (lg_sl ([.ref (b 0), .int wh])).length) Slot.unset).toArray = ls at hl ⊢
  have hl : lv_has ls 2 [(0, .ref (b 0)), (1, .int wh)] := hl
  refine lv_iload_n hx hb dDe_count_0 rfl (lv_at hl 1 rfl) ?_
  by_cases hq9 : ∃ q, 0 ≤ q ∧ q ≤ 6 ∧ wh = nI q
  · obtain ⟨q, q1, q2, rfl⟩ := hq9
    rcases (show q = 0 ∨ q = 1 ∨ q = 2 ∨ q = 3 ∨ q = 4 ∨ q = 5 ∨ q = 6 by omega) with rfl | rfl | rfl | rfl | rfl | rfl | rfl
    · refine lv_tableIn (off := 43) (tgt := 44) hx hb dDe_count_1 (by decide +kernel) (by decide +kernel) (by decide +kernel) (by decide) ?_
      refine lv_aload_n hx hb dDe_count_44 rfl (lv_at hl 0 rfl) ?_
      refine va_get (D := (dC, dI)) (ci := 7) (v := .ref (b 1)) (C := RDe) (T := TDe) (N := 10) hx hb hts inDe hown hK hP 0 rfl rfl 0 (by decide) (hts _ tw_192) (fun _ h9 => h9) rfl dDe_count_45 ?_
      refine va_getN (D := (dC, dI)) (ci := 4) (v := .int (I 0 3)) (C := RFi) (T := TFi) (N := 2) hx hb hts inFi hown hK hP 1 rfl rfl 1 (by decide) (va_Nw.use rfl (hE.1 _ en_35)) (fun _ h9 => h9) rfl dDe_count_48 ?_
      exact ex_ret (ct_ri hx hb hr hlocks (I, D) (⟨_, q1, q2, rfl, rfl, Or.inl rfl⟩) hP hD hS (Nat.zero_le _) (Nat.zero_le _) dDe_count_51)
    · refine lv_tableIn (off := 51) (tgt := 52) hx hb dDe_count_1 (by decide +kernel) (by decide +kernel) (by decide +kernel) (by decide) ?_
      refine lv_aload_n hx hb dDe_count_52 rfl (lv_at hl 0 rfl) ?_
      refine va_get (D := (dC, dI)) (ci := 7) (v := .ref (b 7)) (C := RDe) (T := TDe) (N := 10) hx hb hts inDe hown hK hP 0 rfl rfl 2 (by decide) (hts _ tw_194) (fun _ h9 => h9) rfl dDe_count_53 ?_
      refine va_getN (D := (dC, dI)) (ci := 3) (v := .int (I 0 4)) (C := RSo) (T := TSo) (N := 7) hx hb hts inSo hown hK hP 7 rfl rfl 5 (by decide) (va_Nw.use rfl (hE.1 _ en_83)) (fun _ h9 => h9) rfl dDe_count_56 ?_
      refine rw_i (y := nI ns) h4 ?_
      exact ex_ret (ct_ri hx hb hr hlocks (I, D) (⟨_, q1, q2, rfl, rfl, Or.inl rfl⟩) hP hD hS (Nat.zero_le _) (Nat.zero_le _) dDe_count_59)
    · refine lv_tableIn (off := 59) (tgt := 60) hx hb dDe_count_1 (by decide +kernel) (by decide +kernel) (by decide +kernel) (by decide) ?_
      refine lv_aload_n hx hb dDe_count_60 rfl (lv_at hl 0 rfl) ?_
      refine va_get (D := (dC, dI)) (ci := 7) (v := .ref (b 7)) (C := RDe) (T := TDe) (N := 10) hx hb hts inDe hown hK hP 0 rfl rfl 2 (by decide) (hts _ tw_194) (fun _ h9 => h9) rfl dDe_count_61 ?_
      refine ct_i (va_runV (As := []) (rest := []) ⟨hx, hb, hml, hown, hts⟩ (kSo_frames l dC dI k b P I D _ ns hn h4) (cwV 0 hts (gw_V tw_446 tw_447 tw_448 tw_4 tw_449) rfl rfl rfl (by decide +kernel) ⟨Nat.le_of_ble_eq_true rfl, Nat.le_of_ble_eq_true rfl⟩) ⟨ct_blind (ev := (fun _ => True)) (fun _ _ _ _ h => h), va_recv hK hP (ci := 3) (q0 := 7) rfl rfl, ct_now (ev := (fun _ => True)) (fun _ _ _ => trivial) hP hK hD⟩ rfl rfl hl.1 rfl (lv_room (Nat.le_of_ble_eq_true rfl)) dDe_count_64 ⟨Nat.le_of_ble_eq_true rfl, Nat.le_of_ble_eq_true rfl⟩) hD hS hA (fun r1 u1 H locs hw1 hP hD hS => ?_)
      subst hw1
      have hnf := nf_le hn
      exact ex_ret (ct_ri hx hb hr hlocks (I, D) (⟨_, q1, q2, rfl, rfl, Or.inl rfl⟩) hP hD hS (Nat.zero_le _) (Nat.zero_le _) dDe_count_67)
    · refine lv_tableIn (off := 67) (tgt := 68) hx hb dDe_count_1 (by decide +kernel) (by decide +kernel) (by decide +kernel) (by decide) ?_
      refine lv_aload_n hx hb dDe_count_68 rfl (lv_at hl 0 rfl) ?_
      refine va_get (D := (dC, dI)) (ci := 7) (v := .int (I 0 0)) (C := RDe) (T := TDe) (N := 10) hx hb hts inDe hown hK hP 0 rfl rfl 5 (by decide) (hts _ tw_197) (fun _ h9 => h9) rfl dDe_count_69 ?_
      exact ex_ret (ct_ri hx hb hr hlocks (I, D) (⟨_, q1, q2, rfl, rfl, Or.inl rfl⟩) hP hD hS (Nat.zero_le _) (Nat.zero_le _) dDe_count_72)
    · refine lv_tableIn (off := 72) (tgt := 73) hx hb dDe_count_1 (by decide +kernel) (by decide +kernel) (by decide +kernel) (by decide) ?_
      refine lv_aload_n hx hb dDe_count_73 rfl (lv_at hl 0 rfl) ?_
      refine va_get (D := (dC, dI)) (ci := 7) (v := .ref (b 12)) (C := RDe) (T := TDe) (N := 10) hx hb hts inDe hown hK hP 0 rfl rfl 3 (by decide) (hts _ tw_195) (fun _ h9 => h9) rfl dDe_count_74 ?_
      refine va_getN (D := (dC, dI)) (ci := 2) (v := .int (I 0 6)) (C := RBo) (T := TBo) (N := 3) hx hb hts inBo hown hK hP 12 rfl rfl 2 (by decide) (va_Nw.use rfl (hE.1 _ en_135)) (fun _ h9 => h9) rfl dDe_count_77 ?_
      exact ex_ret (ct_ri hx hb hr hlocks (I, D) (⟨_, q1, q2, rfl, rfl, Or.inl rfl⟩) hP hD hS (Nat.zero_le _) (Nat.zero_le _) dDe_count_80)
    · refine lv_tableIn (off := 80) (tgt := 81) hx hb dDe_count_1 (by decide +kernel) (by decide +kernel) (by decide +kernel) (by decide) ?_
      refine lv_aload_n hx hb dDe_count_81 rfl (lv_at hl 0 rfl) ?_
      refine va_get (D := (dC, dI)) (ci := 7) (v := .ref (b 15)) (C := RDe) (T := TDe) (N := 10) hx hb hts inDe hown hK hP 0 rfl rfl 4 (by decide) (hts _ tw_196) (fun _ h9 => h9) rfl dDe_count_82 ?_
      refine va_getN (D := (dC, dI)) (ci := 6) (v := .int (I 0 7)) (C := RLi) (T := TLi) (N := 2) hx hb hts inLi hown hK hP 15 rfl rfl 1 (by decide) (va_Nw.use rfl (hE.1 _ en_184)) (fun _ h9 => h9) rfl dDe_count_85 ?_
      exact ex_ret (ct_ri hx hb hr hlocks (I, D) (⟨_, q1, q2, rfl, rfl, Or.inl rfl⟩) hP hD hS (Nat.zero_le _) (Nat.zero_le _) dDe_count_88)
    · refine lv_tableIn (off := 88) (tgt := 89) hx hb dDe_count_1 (by decide +kernel) (by decide +kernel) (by decide +kernel) (by decide) ?_
      refine lv_aload_n hx hb dDe_count_89 rfl (lv_at hl 0 rfl) ?_
      refine ct_i (va_runV (As := []) (rest := []) ⟨hx, hb, hml, hown, hts⟩ (kDe_loudFrames l dC dI k b P I D _ ns hn h4 hsm hc hsn hwi jd9 hjd h5 hj3 hj4) (cwV 0 hts (gw_V tw_632 tw_634 sl_De_loudFrames tw_1 tw_635) rfl rfl rfl (by decide +kernel) ⟨Nat.le_of_ble_eq_true rfl, Nat.le_of_ble_eq_true rfl⟩) ⟨ct_blind (ev := ev_N) ev_N.blind, va_recv hK hP (ci := 7) (q0 := 0) rfl rfl, ct_now (ev := ev_N) (fun U _ hW => hE.1.warm hW) hP hK hD⟩ rfl rfl hl.1 rfl (lv_room (Nat.le_of_ble_eq_true rfl)) dDe_count_90 ⟨Nat.le_of_ble_eq_true rfl, Nat.le_of_ble_eq_true rfl⟩) hD hS hA (fun r2 u2 H locs hw2 hP hD hS => ?_)
      obtain ⟨h9, e9⟩ := hw2
      subst h9
      exact ex_ret (ct_ri hx hb hr hlocks u2 (⟨_, q1, q2, rfl, rfl, Or.inr e9⟩) hP hD hS (Nat.zero_le _) (Nat.zero_le _) dDe_count_93)
  · refine lv_tableOut (tgt := 94) hx hb dDe_count_1 (tb_out hq9) (by decide) ?_
    exact th_throw hx hb hln (cls := th_IA) (text := "0 to 6 can be counted") hown hP0 hAe hts hE.2 (by decide +kernel) t3_67_231 th_IA_w (hl.1.trans hml.symm) htab dDe_count_94 dDe_count_97 dDe_count_98 dDe_count_100 dDe_count_103 hlocks (I, D) (⟨rfl, rfl, hq9⟩) hP hD hS (Nat.le_of_ble_eq_true rfl) (Nat.le_of_ble_eq_true rfl) (Nat.le_of_ble_eq_true rfl) (Nat.le_of_ble_eq_true rfl) (Nat.le_refl _) (Nat.le_refl _)
