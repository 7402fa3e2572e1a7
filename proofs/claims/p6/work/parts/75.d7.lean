set_option maxHeartbeats 4000000 in
set_option maxRecDepth 100000 in
theorem kSo_judge (l : Launch) (dC : Nat → ClassId) (dI : Nat → Nat → Nat) (k : Nat → ClassId) (b P : Nat → Nat) (I : Nat → Nat → Int32) (D : Nat → Nat → UInt64) (sz : Nat) (ns : Nat) (hn : ns ≤ 320) (h4 : I 0 4 = nI ns) (hsm : ∀ i, i < ns → fb_ 1057 (D 1 i)) (hc : ∀ j, j < 32 → D 5 j = hd_C j) (hsn : ∀ j, j < 32 → D 6 j = hd_S j) (hwi : ∀ j, j < 32 → D 7 j = hd_W j) (jd9 : Nat) (hjd : jd9 ≤ hd_nf ns) (h5 : I 0 5 = nI jd9) (hj3 : ∀ q, q < 4 * jd9 → D 3 q = hw_su (D 1) q) (hj4 : ∀ q, q < 4 * jd9 → D 4 q = hw_lv (D 1) 0 q) : Met l ySo_judge wSo_judge ({ frames := 3, cells := 0, slots := 0, locals := 78 }) (va_Pc [.ref (b 7)] (ct_pre (dC, dI) (de_ty k) ev_N (wd k b P I D) sz)) (va_Qv (fun (u : Nat → Nat → UInt64) => (∀ c, c ≠ 2 → c ≠ 3 → c ≠ 4 → u c = D c) ∧ (∀ q, q < 4 * hd_nf ns → u 3 q = hw_su (D 1) q) ∧ (∀ q, q < 4 * hd_nf ns → u 4 q = hw_lv (D 1) 0 q)) (fun u t => ct_at (dC, dI) (va_A (wd k b P I D) sz) ((fun u => wd k b P (ui I 0 5 (nI (hd_nf ns))) u) u) t) (va_A (wd k b P I D) sz)) 0 0 (va_A (wd k b P I D) sz) := by
  refine Met.ofW (cc := cSo_judge) (maxL := 3) (ret := none) (by decide) rfl ?_
  intro p e s m args below meth c s₁ B hml hv
  obtain ⟨rfl, hsz, hP, hK, hD0, hE⟩ := hv
  have hx := B.exec
  have hb := B.bytes
  have hr := B.returns
  have hts : ∀ w ∈ W0, w.before [.ref (b 7)].toArray s = true := fun w h => atoms_spec (ws := wSo_judge) B.pre w (List.mem_cons_of_mem _ h)
  have hown : s.vm.findClass RSo = some m.cls := findClass_of_methodNamed B.named
  have hlocks := B.notSynchronized
  subst hsz
  have hP0 := hP
  have hD := hD0.self (sz := s.heap.size)
  generalize hAe : va_A (wd k b P I D) s.heap.size = A at hD ⊢
  have hA : ∀ q : Nat, s.heap.size ≤ q → A q := fun q h => by rw [← hAe]; exact Or.inr h
  have hS : va_S A s.heap s.heap [] := va_S.rf
  have hl := lv_entry ([.ref (b 7)]) (n := 3) (Nat.le_of_ble_eq_true rfl)
  rw [lg_entry_eq]
  generalize (lg_sl ([.ref (b 7)]) ++ List.replicate (3 - (lg_sl ([.ref (b 7)])).length) Slot.unset).toArray = ls at hl ⊢
  have hl : lv_has ls 3 [(0, .ref (b 7))] := hl
  refine lp_q (fun Q9 hQ9 => ?_)
  refine lv_aload_n hx hb dSo_judge_0 rfl (lv_at hl 0 rfl) ?_
  refine ct_i (va_runV (As := []) (rest := []) ⟨hx, hb, hml, hown, hts⟩ (kSo_frames l dC dI k b P I D _ ns hn h4) (cwV 0 hts (gw_V tw_473 tw_447 tw_448 tw_4 tw_449) rfl rfl rfl (by decide +kernel) ⟨Nat.le_of_ble_eq_true rfl, Nat.le_of_ble_eq_true rfl⟩) ⟨ct_blind (ev := (fun _ => True)) (fun _ _ _ _ h => h), va_recv hK hP (ci := 3) (q0 := 7) rfl rfl, ct_now (ev := (fun _ => True)) (fun _ _ _ => trivial) hP hK hD⟩ rfl rfl hl.1 rfl (lv_room (Nat.le_of_ble_eq_true rfl)) dSo_judge_1 ⟨Nat.le_of_ble_eq_true rfl, Nat.le_of_ble_eq_true rfl⟩) hD hS hA (fun r1 u1 H locs hw1 hP hD hS => ?_)
  subst hw1
  have hnf := nf_le hn
  refine lv_istore_n (lv' := [(1, .int (nI (hd_nf ns))), (0, .ref (b 7))]) hx hb dSo_judge_4 rfl hl (by decide) rfl (fun ls hl => ?_)
  refine lv_aload_n hx hb dSo_judge_5 rfl (lv_at hl 1 rfl) ?_
  refine va_get (D := (dC, dI)) (ci := 3) (v := .int (I 0 5)) (C := RSo) (T := TSo) (N := 7) hx hb hts inSo hown hK hP 7 rfl rfl 6 (by decide) (hts _ tw_84) (fun _ h9 => h9) rfl dSo_judge_6 ?_
  refine rw_i (y := nI jd9) h5 ?_
  refine lv_istore_n (lv' := [(2, .int (nI jd9)), (1, .int (nI (hd_nf ns))), (0, .ref (b 7))]) hx hb dSo_judge_9 rfl hl (by decide) rfl (fun ls hl => ?_)
  have L10 : ∀ (n10 : Nat) (f : Nat) (E : Nat → Nat → UInt64), hd_nf ns - f < n10 → f ≤ hd_nf ns → (∀ c, c ≠ 2 → c ≠ 3 → c ≠ 4 → E c = D c) → (∀ q, q < 4 * f → E 3 q = hw_su (D 1) q) → (∀ q, q < 4 * f → E 4 q = hw_lv (D 1) 0 q) → ∀ (H : Heap) (locs : List Loc), va_P (dC, dI) vwCl (wd k b P I E) H → va_D A (wd k b P I E) → va_S A s.heap H locs → ∀ ls : Array Slot, lv_has ls 3 [(0, .ref (b 7)), (1, .int (nI (hd_nf ns))), (2, .int (nI f))] → W p l e (headSpec wSo_judge ({ frames := 3, cells := 0, slots := 0, locals := 78 })).room s m [.ref (b 7)].toArray below meth c H locs 0 0 Q9 (F0 m 10 ls []) := by
    intro n10
    induction n10 with
    | zero => intro f E hm; exact absurd hm (Nat.not_lt_zero _)
    | succ n10 ih10 =>
      intro f E hm10 hf hE1 hE3 hE4 H locs hP hD hS ls hl
      refine lv_iload_n hx hb dSo_judge_10 rfl (lv_at hl 2 rfl) ?_
      refine lv_iload_n hx hb dSo_judge_11 rfl (lv_at hl 1 rfl) ?_
      refine lv_icmp_ge (tgt := 71) hx hb dSo_judge_12 (by decide) (fun c12 => ?_) (fun c12 => ?_)
      · have c12 : (hd_nf ns) ≤ f := (nI_leI (a := (hd_nf ns)) (b := f) (by omega) (by omega)).mp (show nI (hd_nf ns) ≤ nI f from c12)
        refine lv_aload_n hx hb dSo_judge_71 rfl (lv_at hl 0 rfl) ?_
        refine lv_iload_n hx hb dSo_judge_72 rfl (lv_at hl 1 rfl) ?_
        refine va_put (D := (dC, dI)) (ci := 3) (fs := so_f b I E) (v := .int (nI (hd_nf ns))) (ty := .int) (C := RSo) (T := TSo) (N := 7) hx hb hts inSo tySo tySo_ok nmSo hown hK hP hD hS 7 rfl rfl 6 (by decide) (hts _ tw_84) (fun _ h9 => h9) rfl (by decide +kernel) rfl rfl (Nat.le_of_ble_eq_true rfl) dSo_judge_73 (fun H locs hP hD hS => ?_)
        rw [wd_p7_6] at hP hD
        obtain ⟨I2, eI2⟩ : ∃ z, z = ui I 0 5 (nI (hd_nf ns)) := ⟨_, rfl⟩
        rw [← eI2] at hP hD
        rw [eI2] at hP hD
        have ef : f = hd_nf ns := by omega
        rw [ef] at hE3 hE4
        rw [hQ9]
        exact ct_rv hx hb hr hlocks E (⟨hE1, hE3, hE4⟩) hP hD hS (Nat.le_refl _) (Nat.le_refl _) dSo_judge_76
      · have c12 : ¬ (hd_nf ns) ≤ f := fun q9 => c12 (show nI (hd_nf ns) ≤ nI f from (nI_leI (a := (hd_nf ns)) (b := f) (by omega) (by omega)).mpr q9)
        refine lv_aload_n hx hb dSo_judge_15 rfl (lv_at hl 0 rfl) ?_
        refine lv_iload_n hx hb dSo_judge_16 rfl (lv_at hl 2 rfl) ?_
        have hfi := nf_lt (n := ns) (j := f) (by omega)
        refine ct_v (va_runV (As := [.int (nI f)]) (rest := []) ⟨hx, hb, hml, hown, hts⟩ (kSo_weigh l dC dI k b P I E _ f (by omega) (fun i hi => by rw [hE1 1 (by decide) (by decide) (by decide)]; exact hsm _ (by omega)) (fun j hj => by rw [hE1 7 (by decide) (by decide) (by decide)]; exact hwi j hj)) (cwV 1 hts (gw_V tw_474 tw_453 tw_454 tw_4 tw_455) rfl rfl rfl (by decide +kernel) ⟨Nat.le_of_ble_eq_true rfl, Nat.le_of_ble_eq_true rfl⟩) ⟨ct_blind (ev := ev_N) ev_N.blind, va_recv hK hP (ci := 3) (q0 := 7) rfl rfl, ct_now (ev := ev_N) (fun U _ hW => hE.warm hW) hP hK hD⟩ rfl rfl hl.1 rfl (lv_room (Nat.le_of_ble_eq_true rfl)) dSo_judge_17 ⟨Nat.le_of_ble_eq_true rfl, Nat.le_of_ble_eq_true rfl⟩) hD hS hA (fun u3 H locs hw3 hP hD hS => ?_)
        rw [hE1 1 (by decide) (by decide) (by decide)] at hw3
        obtain ⟨F0_, eF0_⟩ : ∃ z, z = us E 2 u3 := ⟨_, rfl⟩
        rw [← eF0_] at hP hD
        have hv0 : ∀ i, i < 32 → F0_ 2 i = hd_v (D 1) f i := fun i hi => by rw [eF0_, us_c]; exact hw3 i hi
        have o0 : ∀ c, c ≠ 2 → c ≠ 3 → c ≠ 4 → F0_ c = D c := fun c z2 z3 z4 => by rw [eF0_, us_o _ _ z2]; exact hE1 c z2 z3 z4
        refine lv_aload_n hx hb dSo_judge_20 rfl (lv_at hl 0 rfl) ?_
        refine lv_iload_n hx hb dSo_judge_21 rfl (lv_at hl 2 rfl) ?_
        refine lv_iconst (v := nI 4) hx hb dSo_judge_22 (by decide +kernel) ?_
        refine lv_imul hx hb dSo_judge_23 ?_
        refine rw_i (y := nI (f * 4)) (pk_mul _ _) ?_
        refine lv_iconst (v := nI 1) hx hb dSo_judge_24 (by decide +kernel) ?_
        refine lv_iconst (v := nI 2) hx hb dSo_judge_25 (by decide +kernel) ?_
        refine ct_v (va_runV (As := [.int (nI (f * 4)), .int (nI 1), .int (nI 2)]) (rest := []) ⟨hx, hb, hml, hown, hts⟩ (kSo_judgeBand l dC dI k b P I F0_ _ ((f * 4)) 1 2 f 2 (D 1) (by omega) (by decide) (by decide) (by decide) (fun i hi => hsm _ (by omega)) hv0 (fun j hj => by rw [o0 5 (by decide) (by decide) (by decide)]; exact hc j hj) (fun j hj => by rw [o0 6 (by decide) (by decide) (by decide)]; exact hsn j hj)) (cwV 3 hts (gw_V tw_475 tw_477 sl_So_judgeBand tw_4 tw_478) rfl rfl rfl (by decide +kernel) ⟨Nat.le_of_ble_eq_true rfl, Nat.le_of_ble_eq_true rfl⟩) ⟨ct_blind (ev := ev_N) ev_N.blind, va_recv hK hP (ci := 3) (q0 := 7) rfl rfl, ct_now (ev := ev_N) (fun U _ hW => hE.warm hW) hP hK hD⟩ rfl rfl hl.1 rfl (lv_room (Nat.le_of_ble_eq_true rfl)) dSo_judge_26 ⟨Nat.le_of_ble_eq_true rfl, Nat.le_of_ble_eq_true rfl⟩) hD hS hA (fun u4 H locs hw4 hP hD hS => ?_)
        have eF1_ : u4 = ud (ud F0_ 3 (4 * f + 0) (hd_su (D 1) f 0)) 4 (4 * f + 0) (hd_lev (D 1) f 0) := by rw [hw4, show (f * 4) = 4 * f + 0 by omega]; rfl
        have hv1 : ∀ i, i < 32 → u4 2 i = hd_v (D 1) f i := fun i hi => by rw [eF1_, ud_o _ _ _ (by decide), ud_o _ _ _ (by decide)]; exact hv0 i hi
        have o1 : ∀ c, c ≠ 2 → c ≠ 3 → c ≠ 4 → u4 c = D c := fun c z2 z3 z4 => by rw [eF1_, ud_o _ _ _ z4, ud_o _ _ _ z3]; exact o0 c z2 z3 z4
        refine lv_aload_n hx hb dSo_judge_29 rfl (lv_at hl 0 rfl) ?_
        refine lv_iload_n hx hb dSo_judge_30 rfl (lv_at hl 2 rfl) ?_
        refine lv_iconst (v := nI 4) hx hb dSo_judge_31 (by decide +kernel) ?_
        refine lv_imul hx hb dSo_judge_32 ?_
        refine rw_i (y := nI (f * 4)) (pk_mul _ _) ?_
        refine lv_iconst (v := nI 1) hx hb dSo_judge_33 (by decide +kernel) ?_
        refine lv_iadd hx hb dSo_judge_34 ?_
        refine rw_i (y := nI ((f * 4) + 1)) (nI_add _ _) ?_
        refine lv_iconst (v := nI 3) hx hb dSo_judge_35 (by decide +kernel) ?_
        refine lv_iconst (v := nI 4) hx hb dSo_judge_36 (by decide +kernel) ?_
        refine ct_v (va_runV (As := [.int (nI ((f * 4) + 1)), .int (nI 3), .int (nI 4)]) (rest := []) ⟨hx, hb, hml, hown, hts⟩ (kSo_judgeBand l dC dI k b P I u4 _ (((f * 4) + 1)) 3 4 f 2 (D 1) (by omega) (by decide) (by decide) (by decide) (fun i hi => hsm _ (by omega)) hv1 (fun j hj => by rw [o1 5 (by decide) (by decide) (by decide)]; exact hc j hj) (fun j hj => by rw [o1 6 (by decide) (by decide) (by decide)]; exact hsn j hj)) (cwV 3 hts (gw_V tw_475 tw_477 sl_So_judgeBand tw_4 tw_478) rfl rfl rfl (by decide +kernel) ⟨Nat.le_of_ble_eq_true rfl, Nat.le_of_ble_eq_true rfl⟩) ⟨ct_blind (ev := ev_N) ev_N.blind, va_recv hK hP (ci := 3) (q0 := 7) rfl rfl, ct_now (ev := ev_N) (fun U _ hW => hE.warm hW) hP hK hD⟩ rfl rfl hl.1 rfl (lv_room (Nat.le_of_ble_eq_true rfl)) dSo_judge_37 ⟨Nat.le_of_ble_eq_true rfl, Nat.le_of_ble_eq_true rfl⟩) hD hS hA (fun u5 H locs hw5 hP hD hS => ?_)
        have eF2_ : u5 = ud (ud u4 3 (4 * f + 1) (hd_su (D 1) f 1)) 4 (4 * f + 1) (hd_lev (D 1) f 1) := by rw [hw5, show ((f * 4) + 1) = 4 * f + 1 by omega]; rfl
        have hv2 : ∀ i, i < 32 → u5 2 i = hd_v (D 1) f i := fun i hi => by rw [eF2_, ud_o _ _ _ (by decide), ud_o _ _ _ (by decide)]; exact hv1 i hi
        have o2 : ∀ c, c ≠ 2 → c ≠ 3 → c ≠ 4 → u5 c = D c := fun c z2 z3 z4 => by rw [eF2_, ud_o _ _ _ z4, ud_o _ _ _ z3]; exact o1 c z2 z3 z4
        refine lv_aload_n hx hb dSo_judge_40 rfl (lv_at hl 0 rfl) ?_
        refine lv_iload_n hx hb dSo_judge_41 rfl (lv_at hl 2 rfl) ?_
        refine lv_iconst (v := nI 4) hx hb dSo_judge_42 (by decide +kernel) ?_
        refine lv_imul hx hb dSo_judge_43 ?_
        refine rw_i (y := nI (f * 4)) (pk_mul _ _) ?_
        refine lv_iconst (v := nI 2) hx hb dSo_judge_44 (by decide +kernel) ?_
        refine lv_iadd hx hb dSo_judge_45 ?_
        refine rw_i (y := nI ((f * 4) + 2)) (nI_add _ _) ?_
        refine lv_iconst (v := nI 5) hx hb dSo_judge_46 (by decide +kernel) ?_
        refine lv_bipush (v := nI 8) hx hb dSo_judge_47 (by decide +kernel) ?_
        refine ct_v (va_runV (As := [.int (nI ((f * 4) + 2)), .int (nI 5), .int (nI 8)]) (rest := []) ⟨hx, hb, hml, hown, hts⟩ (kSo_judgeBand l dC dI k b P I u5 _ (((f * 4) + 2)) 5 8 f 4 (D 1) (by omega) (by decide) (by decide) (by decide) (fun i hi => hsm _ (by omega)) hv2 (fun j hj => by rw [o2 5 (by decide) (by decide) (by decide)]; exact hc j hj) (fun j hj => by rw [o2 6 (by decide) (by decide) (by decide)]; exact hsn j hj)) (cwV 3 hts (gw_V tw_475 tw_477 sl_So_judgeBand tw_4 tw_478) rfl rfl rfl (by decide +kernel) ⟨Nat.le_of_ble_eq_true rfl, Nat.le_of_ble_eq_true rfl⟩) ⟨ct_blind (ev := ev_N) ev_N.blind, va_recv hK hP (ci := 3) (q0 := 7) rfl rfl, ct_now (ev := ev_N) (fun U _ hW => hE.warm hW) hP hK hD⟩ rfl rfl hl.1 rfl (lv_room (Nat.le_of_ble_eq_true rfl)) dSo_judge_49 ⟨Nat.le_of_ble_eq_true rfl, Nat.le_of_ble_eq_true rfl⟩) hD hS hA (fun u6 H locs hw6 hP hD hS => ?_)
        have eF3_ : u6 = ud (ud u5 3 (4 * f + 2) (hd_su (D 1) f 2)) 4 (4 * f + 2) (hd_lev (D 1) f 2) := by rw [hw6, show ((f * 4) + 2) = 4 * f + 2 by omega]; rfl
        have hv3 : ∀ i, i < 32 → u6 2 i = hd_v (D 1) f i := fun i hi => by rw [eF3_, ud_o _ _ _ (by decide), ud_o _ _ _ (by decide)]; exact hv2 i hi
        have o3 : ∀ c, c ≠ 2 → c ≠ 3 → c ≠ 4 → u6 c = D c := fun c z2 z3 z4 => by rw [eF3_, ud_o _ _ _ z4, ud_o _ _ _ z3]; exact o2 c z2 z3 z4
        refine lv_aload_n hx hb dSo_judge_52 rfl (lv_at hl 0 rfl) ?_
        refine lv_iload_n hx hb dSo_judge_53 rfl (lv_at hl 2 rfl) ?_
        refine lv_iconst (v := nI 4) hx hb dSo_judge_54 (by decide +kernel) ?_
        refine lv_imul hx hb dSo_judge_55 ?_
        refine rw_i (y := nI (f * 4)) (pk_mul _ _) ?_
        refine lv_iconst (v := nI 3) hx hb dSo_judge_56 (by decide +kernel) ?_
        refine lv_iadd hx hb dSo_judge_57 ?_
        refine rw_i (y := nI ((f * 4) + 3)) (nI_add _ _) ?_
        refine lv_bipush (v := nI 9) hx hb dSo_judge_58 (by decide +kernel) ?_
        refine lv_bipush (v := nI 16) hx hb dSo_judge_60 (by decide +kernel) ?_
        refine ct_v (va_runV (As := [.int (nI ((f * 4) + 3)), .int (nI 9), .int (nI 16)]) (rest := []) ⟨hx, hb, hml, hown, hts⟩ (kSo_judgeBand l dC dI k b P I u6 _ (((f * 4) + 3)) 9 16 f 8 (D 1) (by omega) (by decide) (by decide) (by decide) (fun i hi => hsm _ (by omega)) hv3 (fun j hj => by rw [o3 5 (by decide) (by decide) (by decide)]; exact hc j hj) (fun j hj => by rw [o3 6 (by decide) (by decide) (by decide)]; exact hsn j hj)) (cwV 3 hts (gw_V tw_475 tw_477 sl_So_judgeBand tw_4 tw_478) rfl rfl rfl (by decide +kernel) ⟨Nat.le_of_ble_eq_true rfl, Nat.le_of_ble_eq_true rfl⟩) ⟨ct_blind (ev := ev_N) ev_N.blind, va_recv hK hP (ci := 3) (q0 := 7) rfl rfl, ct_now (ev := ev_N) (fun U _ hW => hE.warm hW) hP hK hD⟩ rfl rfl hl.1 rfl (lv_room (Nat.le_of_ble_eq_true rfl)) dSo_judge_62 ⟨Nat.le_of_ble_eq_true rfl, Nat.le_of_ble_eq_true rfl⟩) hD hS hA (fun u7 H locs hw7 hP hD hS => ?_)
        have eF4_ : u7 = ud (ud u6 3 (4 * f + 3) (hd_su (D 1) f 3)) 4 (4 * f + 3) (hd_lev (D 1) f 3) := by rw [hw7, show ((f * 4) + 3) = 4 * f + 3 by omega]; rfl
        have hv4 : ∀ i, i < 32 → u7 2 i = hd_v (D 1) f i := fun i hi => by rw [eF4_, ud_o _ _ _ (by decide), ud_o _ _ _ (by decide)]; exact hv3 i hi
        have o4 : ∀ c, c ≠ 2 → c ≠ 3 → c ≠ 4 → u7 c = D c := fun c z2 z3 z4 => by rw [eF4_, ud_o _ _ _ z4, ud_o _ _ _ z3]; exact o3 c z2 z3 z4
        refine lv_iinc (v := nI (f + 1)) (lv' := [(2, .int (nI (f + 1))), (0, .ref (b 7)), (1, .int (nI (hd_nf ns)))]) hx hb dSo_judge_65 hl (k := 2) rfl (nI_1 _) (by decide) rfl (fun ls hl => ?_)
        refine lv_goto (tgt := 10) hx hb dSo_judge_68 (by decide) ?_
        have n3 : u7 3 = vf_upd (vf_upd (vf_upd (vf_upd (E 3) (4 * f) (hd_su (D 1) f 0)) (4 * f + 1) (hd_su (D 1) f 1)) (4 * f + 2) (hd_su (D 1) f 2)) (4 * f + 3) (hd_su (D 1) f 3) := by
          rw [eF4_, ud_o _ _ _ (by decide), ud_c, eF3_, ud_o _ _ _ (by decide), ud_c, eF2_, ud_o _ _ _ (by decide), ud_c, eF1_, ud_o _ _ _ (by decide), ud_c, eF0_, us_o _ _ (by decide)]; first | done | rfl
        have n4 : u7 4 = vf_upd (vf_upd (vf_upd (vf_upd (E 4) (4 * f) (hd_lev (D 1) f 0)) (4 * f + 1) (hd_lev (D 1) f 1)) (4 * f + 2) (hd_lev (D 1) f 2)) (4 * f + 3) (hd_lev (D 1) f 3) := by
          rw [eF4_, ud_c, ud_o _ _ _ (by decide), eF3_, ud_c, ud_o _ _ _ (by decide), eF2_, ud_c, ud_o _ _ _ (by decide), eF1_, ud_c, ud_o _ _ _ (by decide), eF0_, us_o _ _ (by decide)]; first | done | rfl
        exact ih10 (f + 1) u7 (by omega) (by omega) o4 (fun q hq => by rw [n3]; exact fill_4 hE3 (hw_su_e (D 1) f 0 (by decide)).symm (hw_su_e (D 1) f 1 (by decide)).symm (hw_su_e (D 1) f 2 (by decide)).symm (hw_su_e (D 1) f 3 (by decide)).symm q hq) (fun q hq => by rw [n4]; exact fill_4 hE4 (hw_lv_0 (D 1) f 0 (by decide)).symm (hw_lv_0 (D 1) f 1 (by decide)).symm (hw_lv_0 (D 1) f 2 (by decide)).symm (hw_lv_0 (D 1) f 3 (by decide)).symm q hq) _ _ hP hD hS ls (lv_sub hl [1, 2, 0] rfl)
  exact L10 _ jd9 D (Nat.lt_succ_self _) hjd (fun c z2 z3 z4 => rfl) hj3 hj4 _ _ hP hD hS ls (lv_sub hl [2, 1, 0] rfl)
