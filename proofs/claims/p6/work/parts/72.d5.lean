set_option maxHeartbeats 4000000 in
set_option maxRecDepth 100000 in
theorem kDe_read (l : Launch) (hln : l.stackTraces = false) (dC : Nat → ClassId) (dI : Nat → Nat → Nat) (k : Nat → ClassId) (b P : Nat → Nat) (I : Nat → Nat → Int32) (D : Nat → Nat → UInt64) (sz : Nat) (n : Nat) (hn : n ≤ 400) (h3 : I 0 3 = nI n) (oc : Nat → Nat) (ho : ∀ j, j < 400 → I 1 j = nI (oc j) ∧ oc j < 256) : ex_Met l yDe_read wDe_read ({ frames := 6, cells := 1, slots := 6, locals := 130 }) (va_Pc [.ref (b 0)] (ct_pre (dC, dI) (de_ty k) ev_D (wd k b P I D) sz)) (va_Qi (fun r (u : (Nat → Nat → Int32) × (Nat → UInt64)) => fi_ok oc n ∧ fi_n oc n ≤ 320 ∧ r = nI (fi_n oc n) ∧ (∀ i, i < fi_n oc n → u.2 i = fi_sa oc i) ∧ (∀ c, c ≠ 0 → u.1 c = I c) ∧ (∀ z, z ≠ 0 → z ≠ 1 → z ≠ 3 → z ≠ 4 → z ≠ 5 → z ≠ 7 → u.1 0 z = I 0 z) ∧ u.1 0 0 = nI (nu oc 24 4) ∧ u.1 0 3 = nI 0 ∧ u.1 0 4 = nI (fi_n oc n) ∧ u.1 0 5 = nI 0 ∧ u.1 0 7 = nI 0) (fun u t => ct_at (dC, dI) (va_A (wd k b P I D) sz) ((fun u => wd k b P u.1 (us D 1 u.2)) u) t) (va_A (wd k b P I D) sz)) (ct_X (dC, dI) (va_A (wd k b P I D) sz) (fun E (u : (Nat → Nat → Int32) × (Nat → UInt64)) => u.2 = D 1 ∧ (∃ x, u.1 = ui (ui I 0 1 x) 0 3 (nI 0)) ∧ ((E = th_IA ∧ ¬ fi_ok oc n) ∨ (E = th_IO ∧ fi_ok oc n ∧ 320 < fi_n oc n))) (fun u => wd k b P u.1 (us D 1 u.2))) 1 6 (va_A (wd k b P I D) sz) := by
  refine ex_met (cc := cDe_read) (maxL := 3) (ret := (some .int)) (by decide) rfl ?_
  intro p e s m args below meth c s₁ B hml htab hv
  obtain ⟨rfl, hsz, hP, hK, hD0, hE⟩ := hv
  have hx := B.exec
  have hb := B.bytes
  have hr := B.returns
  have hts : ∀ w ∈ W0, w.before [.ref (b 0)].toArray s = true := fun w h => atoms_spec (ws := wDe_read) B.pre w (List.mem_cons_of_mem _ h)
  have hown : s.vm.findClass RDe = some m.cls := findClass_of_methodNamed B.named
  have hlocks := B.notSynchronized
  subst hsz
  have hP0 := hP
  have hD := hD0.self (sz := s.heap.size)
  generalize hAe : va_A (wd k b P I D) s.heap.size = A at hD ⊢
  have hA : ∀ q : Nat, s.heap.size ≤ q → A q := fun q h => by rw [← hAe]; exact Or.inr h
  have hS : va_S A s.heap s.heap [] := va_S.rf
  have hl := lv_entry ([.ref (b 0)]) (n := 3) (Nat.le_of_ble_eq_true rfl)
  rw [lg_entry_eq]
  generalize (lg_sl ([.ref (b 0)]) ++ List.replicate (3 - (lg_sl ([.ref (b 0)])).length) Slot.unset).toArray = ls at hl ⊢
  have hl : lv_has ls 3 [(0, .ref (b 0))] := hl
  refine lp_q (fun Q9 hQ9 => ?_)
  refine lv_aload_n hx hb dDe_read_0 rfl (lv_at hl 0 rfl) ?_
  refine lv_aload_n hx hb dDe_read_1 rfl (lv_at hl 0 rfl) ?_
  refine va_get (D := (dC, dI)) (ci := 7) (v := .ref (b 1)) (C := RDe) (T := TDe) (N := 10) hx hb hts inDe hown hK hP 0 rfl rfl 0 (by decide) (hts _ tw_192) (fun _ h9 => h9) rfl dDe_read_2 ?_
  refine ct_i (va_runV (As := []) (rest := [.ref (b 0)]) ⟨hx, hb, hml, hown, hts⟩ (kFi_firstWrong l dC dI k b P I D _ n hn h3 oc ho) (cwV 0 hts (gw_V tw_344 tw_345 tw_346 tw_2 tw_347) rfl rfl rfl (by decide +kernel) ⟨Nat.le_of_ble_eq_true rfl, Nat.le_of_ble_eq_true rfl⟩) ⟨ct_blind (ev := (fun _ => True)) (fun _ _ _ _ h => h), va_recv hK hP (ci := 4) (q0 := 1) rfl rfl, ct_now (ev := (fun _ => True)) (fun _ _ _ => trivial) hP hK hD⟩ rfl rfl hl.1 rfl (lv_room (Nat.le_of_ble_eq_true rfl)) dDe_read_5 ⟨Nat.le_of_ble_eq_true rfl, Nat.le_of_ble_eq_true rfl⟩) hD hS hA (fun r1 u1 H locs hw1 hP hD hS => ?_)
  rcases hw1 with ⟨hok, rfl⟩ | ⟨hok, jw, hjw, rfl⟩
  · skip
    refine va_put (D := (dC, dI)) (ci := 7) (fs := de_f b I D) (v := .int (-1)) (ty := .int) (C := RDe) (T := TDe) (N := 10) hx hb hts inDe tyDe tyDe_ok nmDe hown hK hP hD hS 0 rfl rfl 6 (by decide) (hts _ tw_198) (fun _ h9 => h9) rfl (by decide +kernel) rfl rfl (Nat.le_of_ble_eq_true rfl) dDe_read_8 (fun H locs hP hD hS => ?_)
    rw [wd_p0_6] at hP hD
    obtain ⟨I2, eI2⟩ : ∃ z, z = ui I 0 1 (-1) := ⟨_, rfl⟩
    rw [← eI2] at hP hD
    refine lv_aload_n hx hb dDe_read_11 rfl (lv_at hl 0 rfl) ?_
    refine va_get (D := (dC, dI)) (ci := 7) (v := .int (I2 0 1)) (C := RDe) (T := TDe) (N := 10) hx hb hts inDe hown hK hP 0 rfl rfl 6 (by decide) (hts _ tw_198) (fun _ h9 => h9) rfl dDe_read_12 ?_
    refine rw_i (y := (-1)) (by rw [eI2, ui_s]) ?_
    refine lv_iconst (v := (-1)) hx hb dDe_read_15 (by decide +kernel) ?_
    refine lv_icmp_eq (tgt := 36) hx hb dDe_read_16 (by decide) (fun c16 => ?_) (fun c16 => ?_)
    · refine lv_aload_n hx hb dDe_read_36 rfl (lv_at hl 0 rfl) ?_
      refine va_get (D := (dC, dI)) (ci := 7) (v := .ref (b 1)) (C := RDe) (T := TDe) (N := 10) hx hb hts inDe hown hK hP 0 rfl rfl 0 (by decide) (hts _ tw_192) (fun _ h9 => h9) rfl dDe_read_37 ?_
      refine ct_i (va_runV (As := []) (rest := []) ⟨hx, hb, hml, hown, hts⟩ (kFi_sampleCount l dC dI k b P I2 D _ n hn (by rw [eI2, ui_n _ _ _ (by decide)]; exact h3) oc (fun j hj => by rw [eI2, ui_o _ _ _ (by decide)]; exact ho j hj) hok) (cwV 0 hts (gw_V tw_393 tw_394 tw_395 tw_2 tw_396) rfl rfl rfl (by decide +kernel) ⟨Nat.le_of_ble_eq_true rfl, Nat.le_of_ble_eq_true rfl⟩) ⟨ct_blind (ev := (fun _ => True)) (fun _ _ _ _ h => h), va_recv hK hP (ci := 4) (q0 := 1) rfl rfl, ct_now (ev := (fun _ => True)) (fun _ _ _ => trivial) hP hK hD⟩ rfl rfl hl.1 rfl (lv_room (Nat.le_of_ble_eq_true rfl)) dDe_read_40 ⟨Nat.le_of_ble_eq_true rfl, Nat.le_of_ble_eq_true rfl⟩) hD hS hA (fun r3 u3 H locs hw3 hP hD hS => ?_)
      subst hw3
      have gn := fi_n_le hok hn
      refine lv_istore_n (lv' := [(1, .int (nI (fi_n oc n))), (0, .ref (b 0))]) hx hb dDe_read_43 rfl hl (by decide) rfl (fun ls hl => ?_)
      refine lv_iload_n hx hb dDe_read_44 rfl (lv_at hl 0 rfl) ?_
      refine lv_sipush (v := nI 320) hx hb dDe_read_45 (by decide +kernel) ?_
      refine lv_icmp_le (tgt := 68) hx hb dDe_read_48 (by decide) (fun c48 => ?_) (fun c48 => ?_)
      · have c48 : (fi_n oc n) ≤ 320 := (nI_leI (a := (fi_n oc n)) (b := 320) (by omega) (by omega)).mp (show nI (fi_n oc n) ≤ nI 320 from c48)
        refine lv_aload_n hx hb dDe_read_68 rfl (lv_at hl 1 rfl) ?_
        refine va_get (D := (dC, dI)) (ci := 7) (v := .ref (b 7)) (C := RDe) (T := TDe) (N := 10) hx hb hts inDe hown hK hP 0 rfl rfl 2 (by decide) (hts _ tw_194) (fun _ h9 => h9) rfl dDe_read_69 ?_
        refine ct_v (va_runV (As := []) (rest := []) ⟨hx, hb, hml, hown, hts⟩ (kSo_empty l dC dI k b P I2 D _ ) (cwV 0 hts (gw_V tw_231 tw_232 tw_233 tw_4 tw_234) rfl rfl rfl (by decide +kernel) ⟨Nat.le_of_ble_eq_true rfl, Nat.le_of_ble_eq_true rfl⟩) ⟨ct_blind (ev := (fun _ => True)) (fun _ _ _ _ h => h), va_recv hK hP (ci := 3) (q0 := 7) rfl rfl, ct_now (ev := (fun _ => True)) (fun _ _ _ => trivial) hP hK hD⟩ rfl rfl hl.1 rfl (lv_room (Nat.le_of_ble_eq_true rfl)) dDe_read_72 ⟨Nat.le_of_ble_eq_true rfl, Nat.le_of_ble_eq_true rfl⟩) hD hS hA (fun u4 H locs hw4 hP hD hS => ?_)
        obtain ⟨u4a, eu4a⟩ : ∃ z, z = ui I2 0 4 (nI 0) := ⟨_, rfl⟩
        rw [← eu4a] at hw4
        have eu4 := hw4
        refine lv_iconst (v := nI 0) hx hb dDe_read_75 (by decide +kernel) ?_
        refine lv_istore_n (lv' := [(2, .int (nI 0)), (1, .int (nI (fi_n oc n))), (0, .ref (b 0))]) hx hb dDe_read_76 rfl hl (by decide) rfl (fun ls hl => ?_)
        rw [← us_id D 1] at hP hD
        have j1 : ∀ j, j < 400 → u4 1 j = nI (oc j) ∧ oc j < 256 := fun j hj => by rw [eu4, ui_o _ _ _ (by decide), eu4a, ui_o _ _ _ (by decide), eI2, ui_o _ _ _ (by decide)]; exact ho j hj
        have j3 : u4 0 3 = nI n := by rw [eu4, ui_n _ _ _ (by decide), eu4a, ui_n _ _ _ (by decide), eI2, ui_n _ _ _ (by decide)]; exact h3
        have j5 : u4 0 5 = nI 0 := by rw [eu4, ui_s]
        have j9 : ∀ c, c ≠ 0 → u4 c = I c := fun c z0 => by rw [eu4, ui_o _ _ _ z0, eu4a, ui_o _ _ _ z0, eI2, ui_o _ _ _ z0]
        have j8 : ∀ z, z ≠ 1 → z ≠ 4 → z ≠ 5 → u4 0 z = I 0 z := fun z z1 z4 z5 => by rw [eu4, ui_n _ _ _ z5, eu4a, ui_n _ _ _ z4, eI2, ui_n _ _ _ z1]
        have L77 : ∀ (n77 : Nat) (i : Nat) (J : Nat → Nat → Int32) (v : Nat → UInt64), fi_n oc n - i < n77 → i ≤ fi_n oc n → (∀ q, q < i → v q = fi_sa oc q) → (∀ c, c ≠ 0 → J c = u4 c) → (∀ z, z ≠ 4 → J 0 z = u4 0 z) → J 0 4 = nI i → ∀ (H : Heap) (locs : List Loc), va_P (dC, dI) vwCl (wd k b P J (us D 1 v)) H → va_D A (wd k b P J (us D 1 v)) → va_S A s.heap H locs → ∀ ls : Array Slot, lv_has ls 3 [(0, .ref (b 0)), (1, .int (nI (fi_n oc n))), (2, .int (nI i))] → W p l e (headSpec wDe_read ({ frames := 6, cells := 1, slots := 6, locals := 130 })).room s m [.ref (b 0)].toArray below meth c H locs 0 0 Q9 (F0 m 77 ls []) := by
          intro n77
          induction n77 with
          | zero => intro i J v hm; exact absurd hm (Nat.not_lt_zero _)
          | succ n77 ih77 =>
            intro i J v hm77 hi hv hJ hJ0 hJ4 H locs hP hD hS ls hl
            refine lv_iload_n hx hb dDe_read_77 rfl (lv_at hl 2 rfl) ?_
            refine lv_iload_n hx hb dDe_read_78 rfl (lv_at hl 1 rfl) ?_
            refine lv_icmp_ge (tgt := 103) hx hb dDe_read_79 (by decide) (fun c79 => ?_) (fun c79 => ?_)
            · have c79 : (fi_n oc n) ≤ i := (nI_leI (a := (fi_n oc n)) (b := i) (by omega) (by omega)).mp (show nI (fi_n oc n) ≤ nI i from c79)
              refine lv_aload_n hx hb dDe_read_103 rfl (lv_at hl 0 rfl) ?_
              refine lv_aload_n hx hb dDe_read_104 rfl (lv_at hl 0 rfl) ?_
              refine va_get (D := (dC, dI)) (ci := 7) (v := .ref (b 1)) (C := RDe) (T := TDe) (N := 10) hx hb hts inDe hown hK hP 0 rfl rfl 0 (by decide) (hts _ tw_192) (fun _ h9 => h9) rfl dDe_read_105 ?_
              refine ct_l (va_runV (As := []) (rest := [.ref (b 0)]) ⟨hx, hb, hml, hown, hts⟩ (kFi_rateSaid l dC dI k b P J (us D 1 v) _ oc (fun j hj => by rw [hJ 1 (by decide)]; exact j1 j hj)) (cwV 0 hts (gw_V tw_414 tw_375 tw_376 tw_2 tw_377) rfl rfl rfl (by decide +kernel) ⟨Nat.le_of_ble_eq_true rfl, Nat.le_of_ble_eq_true rfl⟩) ⟨ct_blind (ev := (fun _ => True)) (fun _ _ _ _ h => h), va_recv hK hP (ci := 4) (q0 := 1) rfl rfl, ct_now (ev := (fun _ => True)) (fun _ _ _ => trivial) hP hK hD⟩ rfl rfl hl.1 rfl (lv_room (Nat.le_of_ble_eq_true rfl)) dDe_read_108 ⟨Nat.le_of_ble_eq_true rfl, Nat.le_of_ble_eq_true rfl⟩) hD hS hA (fun r5 u5 H locs hw5 hP hD hS => ?_)
              subst hw5
              refine lv_l2i (v := nI (nu oc 24 4)) hx hb dDe_read_111 (lN_i _) ?_
              refine va_put (D := (dC, dI)) (ci := 7) (fs := de_f b J (us D 1 v)) (v := .int (nI (nu oc 24 4))) (ty := .int) (C := RDe) (T := TDe) (N := 10) hx hb hts inDe tyDe tyDe_ok nmDe hown hK hP hD hS 0 rfl rfl 5 (by decide) (hts _ tw_197) (fun _ h9 => h9) rfl (by decide +kernel) rfl rfl (Nat.le_of_ble_eq_true rfl) dDe_read_112 (fun H locs hP hD hS => ?_)
              rw [wd_p0_5] at hP hD
              obtain ⟨I6, eI6⟩ : ∃ z, z = ui J 0 0 (nI (nu oc 24 4)) := ⟨_, rfl⟩
              rw [← eI6] at hP hD
              refine lv_aload_n hx hb dDe_read_115 rfl (lv_at hl 0 rfl) ?_
              refine va_get (D := (dC, dI)) (ci := 7) (v := .ref (b 15)) (C := RDe) (T := TDe) (N := 10) hx hb hts inDe hown hK hP 0 rfl rfl 4 (by decide) (hts _ tw_196) (fun _ h9 => h9) rfl dDe_read_116 ?_
              refine ct_v (va_runV (As := []) (rest := []) ⟨hx, hb, hml, hown, hts⟩ (kLi_empty l dC dI k b P I6 (us D 1 v) _ ) (cwV 0 hts (gw_V tw_235 tw_236 tw_237 tw_7 tw_238) rfl rfl rfl (by decide +kernel) ⟨Nat.le_of_ble_eq_true rfl, Nat.le_of_ble_eq_true rfl⟩) ⟨ct_blind (ev := (fun _ => True)) (fun _ _ _ _ h => h), va_recv hK hP (ci := 6) (q0 := 15) rfl rfl, ct_now (ev := (fun _ => True)) (fun _ _ _ => trivial) hP hK hD⟩ rfl rfl hl.1 rfl (lv_room (Nat.le_of_ble_eq_true rfl)) dDe_read_119 ⟨Nat.le_of_ble_eq_true rfl, Nat.le_of_ble_eq_true rfl⟩) hD hS hA (fun u7 H locs hw7 hP hD hS => ?_)
              have eu7 := hw7
              refine lv_aload_n hx hb dDe_read_122 rfl (lv_at hl 0 rfl) ?_
              refine va_get (D := (dC, dI)) (ci := 7) (v := .ref (b 1)) (C := RDe) (T := TDe) (N := 10) hx hb hts inDe hown hK hP 0 rfl rfl 0 (by decide) (hts _ tw_192) (fun _ h9 => h9) rfl dDe_read_123 ?_
              refine ct_v (va_runV (As := []) (rest := []) ⟨hx, hb, hml, hown, hts⟩ (kFi_empty l dC dI k b P u7 (us D 1 v) _ ) (cwV 0 hts (gw_V tw_388 tw_389 tw_390 tw_2 tw_391) rfl rfl rfl (by decide +kernel) ⟨Nat.le_of_ble_eq_true rfl, Nat.le_of_ble_eq_true rfl⟩) ⟨ct_blind (ev := (fun _ => True)) (fun _ _ _ _ h => h), va_recv hK hP (ci := 4) (q0 := 1) rfl rfl, ct_now (ev := (fun _ => True)) (fun _ _ _ => trivial) hP hK hD⟩ rfl rfl hl.1 rfl (lv_room (Nat.le_of_ble_eq_true rfl)) dDe_read_126 ⟨Nat.le_of_ble_eq_true rfl, Nat.le_of_ble_eq_true rfl⟩) hD hS hA (fun u8 H locs hw8 hP hD hS => ?_)
              have eu8 := hw8
              refine lv_iload_n hx hb dDe_read_129 rfl (lv_at hl 1 rfl) ?_
              have o1 : ∀ c, c ≠ 0 → u8 c = I c := fun c z0 => by rw [eu8, ui_o _ _ _ z0, eu7, ui_o _ _ _ z0, eI6, ui_o _ _ _ z0, hJ c z0, j9 c z0]
              have o2 : ∀ z, z ≠ 0 → z ≠ 1 → z ≠ 3 → z ≠ 4 → z ≠ 5 → z ≠ 7 → u8 0 z = I 0 z := fun z z0 z1 z3 z4 z5 z7 => by rw [eu8, ui_n _ _ _ z3, eu7, ui_n _ _ _ z7, eI6, ui_n _ _ _ z0, hJ0 z z4, j8 z z1 z4 z5]
              have o3 : u8 0 0 = nI (nu oc 24 4) ∧ u8 0 3 = nI 0 ∧ u8 0 4 = nI (fi_n oc n) ∧ u8 0 5 = nI 0 ∧ u8 0 7 = nI 0 := ⟨by rw [eu8, ui_n _ _ _ (by decide), eu7, ui_n _ _ _ (by decide), eI6, ui_s], by rw [eu8, ui_s], by rw [eu8, ui_n _ _ _ (by decide), eu7, ui_n _ _ _ (by decide), eI6, ui_n _ _ _ (by decide), hJ4, show i = fi_n oc n by omega], by rw [eu8, ui_n _ _ _ (by decide), eu7, ui_n _ _ _ (by decide), eI6, ui_n _ _ _ (by decide), hJ0 5 (by decide), j5], by rw [eu8, ui_n _ _ _ (by decide), eu7, ui_s]⟩
              rw [hQ9]
              exact ex_ret (ct_ri hx hb hr hlocks (u8, v) (⟨hok, by omega, rfl, fun q hq => hv q (by omega), o1, o2, o3⟩) hP hD hS (Nat.zero_le _) (Nat.zero_le _) dDe_read_130)
            · have c79 : ¬ (fi_n oc n) ≤ i := fun q9 => c79 (show nI (fi_n oc n) ≤ nI i from (nI_leI (a := (fi_n oc n)) (b := i) (by omega) (by omega)).mpr q9)
              refine lv_aload_n hx hb dDe_read_82 rfl (lv_at hl 0 rfl) ?_
              refine va_get (D := (dC, dI)) (ci := 7) (v := .ref (b 7)) (C := RDe) (T := TDe) (N := 10) hx hb hts inDe hown hK hP 0 rfl rfl 2 (by decide) (hts _ tw_194) (fun _ h9 => h9) rfl dDe_read_83 ?_
              refine lv_aload_n hx hb dDe_read_86 rfl (lv_at hl 0 rfl) ?_
              refine va_get (D := (dC, dI)) (ci := 7) (v := .ref (b 1)) (C := RDe) (T := TDe) (N := 10) hx hb hts inDe hown hK hP 0 rfl rfl 0 (by decide) (hts _ tw_192) (fun _ h9 => h9) rfl dDe_read_87 ?_
              refine lv_iload_n hx hb dDe_read_90 rfl (lv_at hl 2 rfl) ?_
              refine ct_d (va_runV (As := [.int (nI i)]) (rest := [.ref (b 7)]) ⟨hx, hb, hml, hown, hts⟩ (kFi_sampleAt l dC dI k b P J (us D 1 v) _ i n hn (by rw [hJ0 3 (by decide)]; exact j3) oc (fun j hj => by rw [hJ 1 (by decide)]; exact j1 j hj) hok (by omega)) (cwV 1 hts (gw_V tw_398 tw_399 tw_400 tw_2 tw_401) rfl rfl rfl (by decide +kernel) ⟨Nat.le_of_ble_eq_true rfl, Nat.le_of_ble_eq_true rfl⟩) ⟨ct_blind (ev := (fun _ => True)) (fun _ _ _ _ h => h), va_recv hK hP (ci := 4) (q0 := 1) rfl rfl, ct_now (ev := (fun _ => True)) (fun _ _ _ => trivial) hP hK hD⟩ rfl rfl hl.1 rfl (lv_room (Nat.le_of_ble_eq_true rfl)) dDe_read_91 ⟨Nat.le_of_ble_eq_true rfl, Nat.le_of_ble_eq_true rfl⟩) hD hS hA (fun r9 u9 H locs hw9 hP hD hS => ?_)
              subst hw9
              refine ct_v (va_runV (As := [.double (fi_sa oc i)]) (rest := []) ⟨hx, hb, hml, hown, hts⟩ (kSo_append l dC dI k b P J (us D 1 v) _ (fi_sa oc i) i (by omega) hJ4) (cwV 1 hts (gw_V tw_410 tw_411 tw_412 tw_4 tw_413) rfl rfl rfl (by decide +kernel) ⟨Nat.le_of_ble_eq_true rfl, Nat.le_of_ble_eq_true rfl⟩) ⟨ct_blind (ev := (fun _ => True)) (fun _ _ _ _ h => h), va_recv hK hP (ci := 3) (q0 := 7) rfl rfl, ct_now (ev := (fun _ => True)) (fun _ _ _ => trivial) hP hK hD⟩ rfl rfl hl.1 rfl (lv_room (Nat.le_of_ble_eq_true rfl)) dDe_read_94 ⟨Nat.le_of_ble_eq_true rfl, Nat.le_of_ble_eq_true rfl⟩) hD hS hA (fun u10 H locs hw10 hP hD hS => ?_)
              subst hw10
              rw [ud_us] at hP hD
              refine lv_iinc (v := nI (i + 1)) (lv' := [(2, .int (nI (i + 1))), (0, .ref (b 0)), (1, .int (nI (fi_n oc n)))]) hx hb dDe_read_97 hl (k := 2) rfl (nI_1 _) (by decide) rfl (fun ls hl => ?_)
              refine lv_goto (tgt := 77) hx hb dDe_read_100 (by decide) ?_
              exact ih77 (i + 1) (ui J 0 4 (nI (i + 1))) (vf_upd v i (fi_sa oc i)) (by omega) (by omega) (fill_1 hv rfl) (fun c z0 => by rw [ui_o _ _ _ z0]; exact hJ c z0) (fun z z4 => by rw [ui_n _ _ _ z4]; exact hJ0 z z4) (ui_s _ _ _ _) _ _ hP hD hS ls (lv_sub hl [1, 2, 0] rfl)
        exact L77 _ 0 u4 (D 1) (Nat.lt_succ_self _) (by omega) (fun q hq => absurd hq (Nat.not_lt_zero _)) (fun c z0 => rfl) (fun z z4 => rfl) (by rw [eu4, ui_n _ _ _ (by decide), eu4a, ui_s]) _ _ hP hD hS ls (lv_sub hl [2, 1, 0] rfl)
      · have c48 : ¬ (fi_n oc n) ≤ 320 := fun q9 => c48 (show nI (fi_n oc n) ≤ nI 320 from (nI_leI (a := (fi_n oc n)) (b := 320) (by omega) (by omega)).mpr q9)
        refine lv_aload_n hx hb dDe_read_51 rfl (lv_at hl 1 rfl) ?_
        refine va_get (D := (dC, dI)) (ci := 7) (v := .ref (b 1)) (C := RDe) (T := TDe) (N := 10) hx hb hts inDe hown hK hP 0 rfl rfl 0 (by decide) (hts _ tw_192) (fun _ h9 => h9) rfl dDe_read_52 ?_
        refine ct_v (va_runV (As := []) (rest := []) ⟨hx, hb, hml, hown, hts⟩ (kFi_empty l dC dI k b P I2 D _ ) (cwV 0 hts (gw_V tw_388 tw_389 tw_390 tw_2 tw_391) rfl rfl rfl (by decide +kernel) ⟨Nat.le_of_ble_eq_true rfl, Nat.le_of_ble_eq_true rfl⟩) ⟨ct_blind (ev := (fun _ => True)) (fun _ _ _ _ h => h), va_recv hK hP (ci := 4) (q0 := 1) rfl rfl, ct_now (ev := (fun _ => True)) (fun _ _ _ => trivial) hP hK hD⟩ rfl rfl hl.1 rfl (lv_room (Nat.le_of_ble_eq_true rfl)) dDe_read_55 ⟨Nat.le_of_ble_eq_true rfl, Nat.le_of_ble_eq_true rfl⟩) hD hS hA (fun u11 H locs hw11 hP hD hS => ?_)
        have eu11 := hw11
        rw [← us_id D 1] at hP hD
        rw [hQ9]
        exact th_throw hx hb hln (cls := th_IO) (text := "there are up to 320 samples") hown hP0 hAe hts hE.2 (by decide +kernel) t3_77_98 th_IO_w (hl.1.trans hml.symm) htab dDe_read_58 dDe_read_61 dDe_read_62 dDe_read_64 dDe_read_67 hlocks (u11, D 1) (⟨rfl, ⟨_, by rw [eu11, eI2]⟩, Or.inr ⟨rfl, hok, by omega⟩⟩) hP hD hS (Nat.le_of_ble_eq_true rfl) (Nat.le_of_ble_eq_true rfl) (Nat.le_of_ble_eq_true rfl) (Nat.le_of_ble_eq_true rfl) (Nat.le_refl _) (Nat.le_refl _)
    · exact absurd rfl c16
  · skip
    refine va_put (D := (dC, dI)) (ci := 7) (fs := de_f b I D) (v := .int (nI jw)) (ty := .int) (C := RDe) (T := TDe) (N := 10) hx hb hts inDe tyDe tyDe_ok nmDe hown hK hP hD hS 0 rfl rfl 6 (by decide) (hts _ tw_198) (fun _ h9 => h9) rfl (by decide +kernel) rfl rfl (Nat.le_of_ble_eq_true rfl) dDe_read_8 (fun H locs hP hD hS => ?_)
    rw [wd_p0_6] at hP hD
    obtain ⟨I12, eI12⟩ : ∃ z, z = ui I 0 1 (nI jw) := ⟨_, rfl⟩
    rw [← eI12] at hP hD
    refine lv_aload_n hx hb dDe_read_11 rfl (lv_at hl 0 rfl) ?_
    refine va_get (D := (dC, dI)) (ci := 7) (v := .int (I12 0 1)) (C := RDe) (T := TDe) (N := 10) hx hb hts inDe hown hK hP 0 rfl rfl 6 (by decide) (hts _ tw_198) (fun _ h9 => h9) rfl dDe_read_12 ?_
    refine rw_i (y := nI jw) (by rw [eI12, ui_s]) ?_
    refine lv_iconst (v := (-1)) hx hb dDe_read_15 (by decide +kernel) ?_
    refine lv_icmp_eq (tgt := 36) hx hb dDe_read_16 (by decide) (fun c16 => ?_) (fun c16 => ?_)
    · exact absurd c16 (rd_ne (by omega))
    · refine lv_aload_n hx hb dDe_read_19 rfl (lv_at hl 0 rfl) ?_
      refine va_get (D := (dC, dI)) (ci := 7) (v := .ref (b 1)) (C := RDe) (T := TDe) (N := 10) hx hb hts inDe hown hK hP 0 rfl rfl 0 (by decide) (hts _ tw_192) (fun _ h9 => h9) rfl dDe_read_20 ?_
      refine ct_v (va_runV (As := []) (rest := []) ⟨hx, hb, hml, hown, hts⟩ (kFi_empty l dC dI k b P I12 D _ ) (cwV 0 hts (gw_V tw_388 tw_389 tw_390 tw_2 tw_391) rfl rfl rfl (by decide +kernel) ⟨Nat.le_of_ble_eq_true rfl, Nat.le_of_ble_eq_true rfl⟩) ⟨ct_blind (ev := (fun _ => True)) (fun _ _ _ _ h => h), va_recv hK hP (ci := 4) (q0 := 1) rfl rfl, ct_now (ev := (fun _ => True)) (fun _ _ _ => trivial) hP hK hD⟩ rfl rfl hl.1 rfl (lv_room (Nat.le_of_ble_eq_true rfl)) dDe_read_23 ⟨Nat.le_of_ble_eq_true rfl, Nat.le_of_ble_eq_true rfl⟩) hD hS hA (fun u13 H locs hw13 hP hD hS => ?_)
      have eu13 := hw13
      rw [← us_id D 1] at hP hD
      rw [hQ9]
      exact th_throw hx hb hln (cls := th_IA) (text := "this is no file of samples") hown hP0 hAe hts hE.2 (by decide +kernel) t3_67_93 th_IA_w (hl.1.trans hml.symm) htab dDe_read_26 dDe_read_29 dDe_read_30 dDe_read_32 dDe_read_35 hlocks (u13, D 1) (⟨rfl, ⟨_, by rw [eu13, eI12]⟩, Or.inl ⟨rfl, hok⟩⟩) hP hD hS (Nat.le_of_ble_eq_true rfl) (Nat.le_of_ble_eq_true rfl) (Nat.le_of_ble_eq_true rfl) (Nat.le_of_ble_eq_true rfl) (Nat.le_refl _) (Nat.le_refl _)
