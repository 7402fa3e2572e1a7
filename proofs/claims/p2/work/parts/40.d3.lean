theorem nf0 {n : Nat} (h : n < 32) : hd_nf n = 0 := by unfold hd_nf; rw [if_pos h]
theorem ln_gt {f : Int32} {q : Nat} (h : ¬ f < 0) (h1 : 1 ≤ q) (h2 : q ≤ 8) : nI 0 - nI q < f := by
  rw [Int32.lt_iff_toInt_lt, pk_sub_toInt (by decide) (by omega)]
  obtain ⟨j, hj, rfl⟩ := nI_of h
  rw [nI_toInt hj]
  omega
theorem tb_out {wh : Int32} {c : Nat} (h : ¬ ∃ q, 0 ≤ q ∧ q ≤ c ∧ wh = nI q) : wh.toInt < 0 ∨ (c : Int) < wh.toInt := by
  by_cases h0 : wh < 0
  · left
    rw [Int32.lt_iff_toInt_lt] at h0
    exact h0
  · right
    obtain ⟨j, hj, rfl⟩ := nI_of h0
    rw [nI_toInt hj]
    have : ¬ j ≤ c := fun z => h ⟨j, Nat.zero_le _, z, rfl⟩
    omega
def dc_ct (I : Nat → Nat → Int32) (q : Nat) : Int32 := if q = 0 then I 0 3 else if q = 1 then I 0 4 else if q = 2 then nI 0 else if q = 3 then I 0 0 else if q = 4 then I 0 6 else if q = 5 then I 0 7 else nI 0
set_option maxHeartbeats 4000000 in
set_option maxRecDepth 100000 in
theorem kDe_power0 (l : Launch) (hln : l.stackTraces = false) (dC : Nat → ClassId) (dI : Nat → Nat → Nat) (k : Nat → ClassId) (b P : Nat → Nat) (I : Nat → Nat → Int32) (D : Nat → Nat → UInt64) (sz : Nat) (f9 k9 : Int32) (n : Nat) (hn : n < 32) (h4 : I 0 4 = nI n) : ex_Met l yDe_power wDe_power ({ frames := 6, cells := 1, slots := 6, locals := 82 }) (va_Pc [.ref (b 0), .int f9, .int k9] (ct_pre (dC, dI) (de_ty k) ev_D (wd k b P I D) sz)) (va_Qd (fun _ (_ : Nat → Nat → Int32) => False) (fun u t => ct_at (dC, dI) (va_A (wd k b P I D) sz) ((fun u => wd k b P u D) u) t) (va_A (wd k b P I D) sz)) (ct_X (dC, dI) (va_A (wd k b P I D) sz) (fun E (u : Nat → Nat → Int32) => u = I ∧ E = th_IO) (fun u => wd k b P u D)) 1 6 (va_A (wd k b P I D) sz) := by
  refine ex_met (cc := cDe_power) (maxL := 3) (ret := (some .double)) (by decide) rfl ?_
  intro p e s m args below meth c s₁ B hml htab hv
  obtain ⟨rfl, hsz, hP, hK, hD0, hE⟩ := hv
  have hx := B.exec
  have hb := B.bytes
  have hr := B.returns
  have hts : ∀ w ∈ W0, w.before [.ref (b 0), .int f9, .int k9].toArray s = true := fun w h => atoms_spec (ws := wDe_power) B.pre w (List.mem_cons_of_mem _ h)
  have hown : s.vm.findClass RDe = some m.cls := findClass_of_methodNamed B.named
  have hlocks := B.notSynchronized
  subst hsz
  have hP0 := hP
  have hD := hD0.self (sz := s.heap.size)
  generalize hAe : va_A (wd k b P I D) s.heap.size = A at hD ⊢
  have hA : ∀ q : Nat, s.heap.size ≤ q → A q := fun q h => by rw [← hAe]; exact Or.inr h
  have hS : va_S A s.heap s.heap [] := va_S.rf
  have hl := lv_entry ([.ref (b 0), .int f9, .int k9]) (n := 3) (Nat.le_of_ble_eq_true rfl)
  rw [lg_entry_eq]
  generalize (lg_sl ([.ref (b 0), .int f9, .int k9]) ++ List.replicate (3 - (lg_sl ([.ref (b 0), .int f9, .int k9])).length) Slot.unset).toArray = ls at hl ⊢
  have hl : lv_has ls 3 [(0, .ref (b 0)), (1, .int f9), (2, .int k9)] := hl
  refine lv_iload_n hx hb dDe_power_0 rfl (lv_at hl 1 rfl) ?_
  refine lv_if_lt (tgt := 15) hx hb dDe_power_1 (by decide) (fun c1 => ?_) (fun c1 => ?_)
  · exact th_throw hx hb hln (cls := th_IO) (text := "there is no such frame") hown hP0 hAe hts hE.2 (by decide +kernel) t3_77_134 th_IO_w (hl.1.trans hml.symm) htab dDe_power_15 dDe_power_18 dDe_power_19 dDe_power_21 dDe_power_24 hlocks I (⟨rfl, rfl⟩) hP hD hS (Nat.le_of_ble_eq_true rfl) (Nat.le_of_ble_eq_true rfl) (Nat.le_of_ble_eq_true rfl) (Nat.le_of_ble_eq_true rfl) (Nat.le_refl _) (Nat.le_refl _)
  · refine lv_iload_n hx hb dDe_power_4 rfl (lv_at hl 1 rfl) ?_
    refine lv_aload_n hx hb dDe_power_5 rfl (lv_at hl 0 rfl) ?_
    refine va_get (D := (dC, dI)) (ci := 7) (v := .ref (b 7)) (C := RDe) (T := TDe) (N := 10) hx hb hts inDe hown hK hP 0 rfl rfl 2 (by decide) (hts _ tw_194) (fun _ h9 => h9) rfl dDe_power_6 ?_
    refine ct_i (va_runV (As := []) (rest := [.int f9]) ⟨hx, hb, hml, hown, hts⟩ (kSo_frames l dC dI k b P I D _ n (by omega) h4) (cwV 0 hts (gw_V tw_446 tw_447 tw_448 tw_4 tw_449) rfl rfl rfl (by decide +kernel) ⟨Nat.le_of_ble_eq_true rfl, Nat.le_of_ble_eq_true rfl⟩) ⟨ct_blind (ev := (fun _ => True)) (fun _ _ _ _ h => h), va_recv hK hP (ci := 3) (q0 := 7) rfl rfl, ct_now (ev := (fun _ => True)) (fun _ _ _ => trivial) hP hK hD⟩ rfl rfl hl.1 rfl (lv_room (Nat.le_of_ble_eq_true rfl)) dDe_power_9 ⟨Nat.le_of_ble_eq_true rfl, Nat.le_of_ble_eq_true rfl⟩) hD hS hA (fun r1 u1 H locs hw1 hP hD hS => ?_)
    rw [nf0 hn] at hw1
    subst hw1
    refine lv_icmp_lt (tgt := 25) hx hb dDe_power_12 (by decide) (fun c12 => ?_) (fun c12 => ?_)
    · exact absurd (show f9 < 0 from c12) c1
    · exact th_throw hx hb hln (cls := th_IO) (text := "there is no such frame") hown hP0 hAe hts hE.2 (by decide +kernel) t3_77_134 th_IO_w (hl.1.trans hml.symm) htab dDe_power_15 dDe_power_18 dDe_power_19 dDe_power_21 dDe_power_24 hlocks I (⟨rfl, rfl⟩) hP hD hS (Nat.le_of_ble_eq_true rfl) (Nat.le_of_ble_eq_true rfl) (Nat.le_of_ble_eq_true rfl) (Nat.le_of_ble_eq_true rfl) (Nat.le_refl _) (Nat.le_refl _)
set_option maxHeartbeats 4000000 in
set_option maxRecDepth 100000 in
theorem kDe_level0 (l : Launch) (hln : l.stackTraces = false) (dC : Nat → ClassId) (dI : Nat → Nat → Nat) (k : Nat → ClassId) (b P : Nat → Nat) (I : Nat → Nat → Int32) (D : Nat → Nat → UInt64) (sz : Nat) (f9 k9 : Int32) (n : Nat) (hn : n < 32) (h4 : I 0 4 = nI n) : ex_Met l yDe_level wDe_level ({ frames := 6, cells := 1, slots := 6, locals := 82 }) (va_Pc [.ref (b 0), .int f9, .int k9] (ct_pre (dC, dI) (de_ty k) ev_D (wd k b P I D) sz)) (va_Qd (fun _ (_ : Nat → Nat → Int32) => False) (fun u t => ct_at (dC, dI) (va_A (wd k b P I D) sz) ((fun u => wd k b P u D) u) t) (va_A (wd k b P I D) sz)) (ct_X (dC, dI) (va_A (wd k b P I D) sz) (fun E (u : Nat → Nat → Int32) => u = I ∧ E = th_IO) (fun u => wd k b P u D)) 1 6 (va_A (wd k b P I D) sz) := by
  refine ex_met (cc := cDe_level) (maxL := 3) (ret := (some .double)) (by decide) rfl ?_
  intro p e s m args below meth c s₁ B hml htab hv
  obtain ⟨rfl, hsz, hP, hK, hD0, hE⟩ := hv
  have hx := B.exec
  have hb := B.bytes
  have hr := B.returns
  have hts : ∀ w ∈ W0, w.before [.ref (b 0), .int f9, .int k9].toArray s = true := fun w h => atoms_spec (ws := wDe_level) B.pre w (List.mem_cons_of_mem _ h)
  have hown : s.vm.findClass RDe = some m.cls := findClass_of_methodNamed B.named
  have hlocks := B.notSynchronized
  subst hsz
  have hP0 := hP
  have hD := hD0.self (sz := s.heap.size)
  generalize hAe : va_A (wd k b P I D) s.heap.size = A at hD ⊢
  have hA : ∀ q : Nat, s.heap.size ≤ q → A q := fun q h => by rw [← hAe]; exact Or.inr h
  have hS : va_S A s.heap s.heap [] := va_S.rf
  have hl := lv_entry ([.ref (b 0), .int f9, .int k9]) (n := 3) (Nat.le_of_ble_eq_true rfl)
  rw [lg_entry_eq]
  generalize (lg_sl ([.ref (b 0), .int f9, .int k9]) ++ List.replicate (3 - (lg_sl ([.ref (b 0), .int f9, .int k9])).length) Slot.unset).toArray = ls at hl ⊢
  have hl : lv_has ls 3 [(0, .ref (b 0)), (1, .int f9), (2, .int k9)] := hl
  refine lv_iload_n hx hb dDe_level_0 rfl (lv_at hl 1 rfl) ?_
  refine lv_if_lt (tgt := 15) hx hb dDe_level_1 (by decide) (fun c1 => ?_) (fun c1 => ?_)
  · exact th_throw hx hb hln (cls := th_IO) (text := "there is no such frame") hown hP0 hAe hts hE.2 (by decide +kernel) t3_77_134 th_IO_w (hl.1.trans hml.symm) htab dDe_level_15 dDe_level_18 dDe_level_19 dDe_level_21 dDe_level_24 hlocks I (⟨rfl, rfl⟩) hP hD hS (Nat.le_of_ble_eq_true rfl) (Nat.le_of_ble_eq_true rfl) (Nat.le_of_ble_eq_true rfl) (Nat.le_of_ble_eq_true rfl) (Nat.le_refl _) (Nat.le_refl _)
  · refine lv_iload_n hx hb dDe_level_4 rfl (lv_at hl 1 rfl) ?_
    refine lv_aload_n hx hb dDe_level_5 rfl (lv_at hl 0 rfl) ?_
    refine va_get (D := (dC, dI)) (ci := 7) (v := .ref (b 7)) (C := RDe) (T := TDe) (N := 10) hx hb hts inDe hown hK hP 0 rfl rfl 2 (by decide) (hts _ tw_194) (fun _ h9 => h9) rfl dDe_level_6 ?_
    refine ct_i (va_runV (As := []) (rest := [.int f9]) ⟨hx, hb, hml, hown, hts⟩ (kSo_frames l dC dI k b P I D _ n (by omega) h4) (cwV 0 hts (gw_V tw_446 tw_447 tw_448 tw_4 tw_449) rfl rfl rfl (by decide +kernel) ⟨Nat.le_of_ble_eq_true rfl, Nat.le_of_ble_eq_true rfl⟩) ⟨ct_blind (ev := (fun _ => True)) (fun _ _ _ _ h => h), va_recv hK hP (ci := 3) (q0 := 7) rfl rfl, ct_now (ev := (fun _ => True)) (fun _ _ _ => trivial) hP hK hD⟩ rfl rfl hl.1 rfl (lv_room (Nat.le_of_ble_eq_true rfl)) dDe_level_9 ⟨Nat.le_of_ble_eq_true rfl, Nat.le_of_ble_eq_true rfl⟩) hD hS hA (fun r1 u1 H locs hw1 hP hD hS => ?_)
    rw [nf0 hn] at hw1
    subst hw1
    refine lv_icmp_lt (tgt := 25) hx hb dDe_level_12 (by decide) (fun c12 => ?_) (fun c12 => ?_)
    · exact absurd (show f9 < 0 from c12) c1
    · exact th_throw hx hb hln (cls := th_IO) (text := "there is no such frame") hown hP0 hAe hts hE.2 (by decide +kernel) t3_77_134 th_IO_w (hl.1.trans hml.symm) htab dDe_level_15 dDe_level_18 dDe_level_19 dDe_level_21 dDe_level_24 hlocks I (⟨rfl, rfl⟩) hP hD hS (Nat.le_of_ble_eq_true rfl) (Nat.le_of_ble_eq_true rfl) (Nat.le_of_ble_eq_true rfl) (Nat.le_of_ble_eq_true rfl) (Nat.le_refl _) (Nat.le_refl _)
set_option maxHeartbeats 4000000 in
set_option maxRecDepth 100000 in
theorem kDe_learn0 (l : Launch) (hln : l.stackTraces = false) (dC : Nat → ClassId) (dI : Nat → Nat → Nat) (k : Nat → ClassId) (b P : Nat → Nat) (I : Nat → Nat → Int32) (D : Nat → Nat → UInt64) (sz : Nat) (le f9 n9 : Int32) (n : Nat) (hn : n < 32) (h4 : I 0 4 = nI n) : ex_Met l yDe_learn wDe_learn ({ frames := 6, cells := 1, slots := 6, locals := 82 }) (va_Pc [.ref (b 0), .int le, .int f9, .int n9] (ct_pre (dC, dI) (de_ty k) ev_D (wd k b P I D) sz)) (va_Qi (fun _ (_ : Nat → Nat → Int32) => False) (fun u t => ct_at (dC, dI) (va_A (wd k b P I D) sz) ((fun u => wd k b P u D) u) t) (va_A (wd k b P I D) sz)) (ct_X (dC, dI) (va_A (wd k b P I D) sz) (fun E (u : Nat → Nat → Int32) => u = I ∧ ((E = th_IA ∧ ¬ ((∃ q, 97 ≤ q ∧ q ≤ 122 ∧ le = nI q) ∧ ∃ q, 1 ≤ q ∧ q ≤ 8 ∧ n9 = nI q)) ∨ (E = th_IO ∧ (∃ q, 97 ≤ q ∧ q ≤ 122 ∧ le = nI q) ∧ ∃ q, 1 ≤ q ∧ q ≤ 8 ∧ n9 = nI q))) (fun u => wd k b P u D)) 1 6 (va_A (wd k b P I D) sz) := by
  refine ex_met (cc := cDe_learn) (maxL := 4) (ret := (some .int)) (by decide) rfl ?_
  intro p e s m args below meth c s₁ B hml htab hv
  obtain ⟨rfl, hsz, hP, hK, hD0, hE⟩ := hv
  have hx := B.exec
  have hb := B.bytes
  have hr := B.returns
  have hts : ∀ w ∈ W0, w.before [.ref (b 0), .int le, .int f9, .int n9].toArray s = true := fun w h => atoms_spec (ws := wDe_learn) B.pre w (List.mem_cons_of_mem _ h)
  have hown : s.vm.findClass RDe = some m.cls := findClass_of_methodNamed B.named
  have hlocks := B.notSynchronized
  subst hsz
  have hP0 := hP
  have hD := hD0.self (sz := s.heap.size)
  generalize hAe : va_A (wd k b P I D) s.heap.size = A at hD ⊢
  have hA : ∀ q : Nat, s.heap.size ≤ q → A q := fun q h => by rw [← hAe]; exact Or.inr h
  have hS : va_S A s.heap s.heap [] := va_S.rf
  have hl := lv_entry ([.ref (b 0), .int le, .int f9, .int n9]) (n := 4) (Nat.le_of_ble_eq_true rfl)
  rw [lg_entry_eq]
  generalize (lg_sl ([.ref (b 0), .int le, .int f9, .int n9]) ++ List.replicate (4 - (lg_sl ([.ref (b 0), .int le, .int f9, .int n9])).length) Slot.unset).toArray = ls at hl ⊢
  have hl : lv_has ls 4 [(0, .ref (b 0)), (1, .int le), (2, .int f9), (3, .int n9)] := hl
  refine lv_iload_n hx hb dDe_learn_0 rfl (lv_at hl 1 rfl) ?_
  refine lv_bipush (v := nI 97) hx hb dDe_learn_1 (by decide +kernel) ?_
  refine lv_icmp_lt (tgt := 23) hx hb dDe_learn_3 (by decide) (fun c3 => ?_) (fun c3 => ?_)
  · exact th_throw hx hb hln (cls := th_IA) (text := "letters are 97 to 122, a pattern has 1 to 8 rows") hown hP0 hAe hts hE.2 (by decide +kernel) t3_67_154 th_IA_w (hl.1.trans hml.symm) htab dDe_learn_23 dDe_learn_26 dDe_learn_27 dDe_learn_29 dDe_learn_32 hlocks I (⟨rfl, Or.inl ⟨rfl, by first | (exact fun z => dn_lo (by decide) (by decide) c3 z.1) | (exact fun z => dn_hi (by decide) c20 z.2) | (exact fun z => dn_lo (by decide) (by decide) c14 z.2) | (exact fun z => dn_hi (by decide) (Int32.not_le.mpr c9) z.1)⟩⟩) hP hD hS (Nat.le_of_ble_eq_true rfl) (Nat.le_of_ble_eq_true rfl) (Nat.le_of_ble_eq_true rfl) (Nat.le_of_ble_eq_true rfl) (Nat.le_refl _) (Nat.le_refl _)
  · refine lv_iload_n hx hb dDe_learn_6 rfl (lv_at hl 1 rfl) ?_
    refine lv_bipush (v := nI 122) hx hb dDe_learn_7 (by decide +kernel) ?_
    refine lv_icmp_gt (tgt := 23) hx hb dDe_learn_9 (by decide) (fun c9 => ?_) (fun c9 => ?_)
    · exact th_throw hx hb hln (cls := th_IA) (text := "letters are 97 to 122, a pattern has 1 to 8 rows") hown hP0 hAe hts hE.2 (by decide +kernel) t3_67_154 th_IA_w (hl.1.trans hml.symm) htab dDe_learn_23 dDe_learn_26 dDe_learn_27 dDe_learn_29 dDe_learn_32 hlocks I (⟨rfl, Or.inl ⟨rfl, by first | (exact fun z => dn_lo (by decide) (by decide) c3 z.1) | (exact fun z => dn_hi (by decide) c20 z.2) | (exact fun z => dn_lo (by decide) (by decide) c14 z.2) | (exact fun z => dn_hi (by decide) (Int32.not_le.mpr c9) z.1)⟩⟩) hP hD hS (Nat.le_of_ble_eq_true rfl) (Nat.le_of_ble_eq_true rfl) (Nat.le_of_ble_eq_true rfl) (Nat.le_of_ble_eq_true rfl) (Nat.le_refl _) (Nat.le_refl _)
    · refine lv_iload_n hx hb dDe_learn_12 rfl (lv_at hl 3 rfl) ?_
      refine lv_iconst (v := nI 1) hx hb dDe_learn_13 (by decide +kernel) ?_
      refine lv_icmp_lt (tgt := 23) hx hb dDe_learn_14 (by decide) (fun c14 => ?_) (fun c14 => ?_)
      · exact th_throw hx hb hln (cls := th_IA) (text := "letters are 97 to 122, a pattern has 1 to 8 rows") hown hP0 hAe hts hE.2 (by decide +kernel) t3_67_154 th_IA_w (hl.1.trans hml.symm) htab dDe_learn_23 dDe_learn_26 dDe_learn_27 dDe_learn_29 dDe_learn_32 hlocks I (⟨rfl, Or.inl ⟨rfl, by first | (exact fun z => dn_lo (by decide) (by decide) c3 z.1) | (exact fun z => dn_hi (by decide) c20 z.2) | (exact fun z => dn_lo (by decide) (by decide) c14 z.2) | (exact fun z => dn_hi (by decide) (Int32.not_le.mpr c9) z.1)⟩⟩) hP hD hS (Nat.le_of_ble_eq_true rfl) (Nat.le_of_ble_eq_true rfl) (Nat.le_of_ble_eq_true rfl) (Nat.le_of_ble_eq_true rfl) (Nat.le_refl _) (Nat.le_refl _)
      · refine lv_iload_n hx hb dDe_learn_17 rfl (lv_at hl 3 rfl) ?_
        refine lv_bipush (v := nI 8) hx hb dDe_learn_18 (by decide +kernel) ?_
        refine lv_icmp_le (tgt := 33) hx hb dDe_learn_20 (by decide) (fun c20 => ?_) (fun c20 => ?_)
        · have hL := dn_in (by decide) (by decide) c3 (Int32.not_lt.mp c9)
          obtain ⟨q, q1, q2, rfl⟩ := dn_in (by decide) (by decide) c14 c20
          refine lv_iload_n hx hb dDe_learn_33 rfl (lv_at hl 2 rfl) ?_
          refine lv_if_lt (tgt := 62) hx hb dDe_learn_34 (by decide) (fun c34 => ?_) (fun c34 => ?_)
          · exact th_throw hx hb hln (cls := th_IO) (text := "a frame is not there, or there are 6 patterns") hown hP0 hAe hts hE.2 (by decide +kernel) t3_77_157 th_IO_w (hl.1.trans hml.symm) htab dDe_learn_62 dDe_learn_65 dDe_learn_66 dDe_learn_68 dDe_learn_71 hlocks I (⟨rfl, Or.inr ⟨rfl, hL, q, q1, q2, rfl⟩⟩) hP hD hS (Nat.le_of_ble_eq_true rfl) (Nat.le_of_ble_eq_true rfl) (Nat.le_of_ble_eq_true rfl) (Nat.le_of_ble_eq_true rfl) (Nat.le_refl _) (Nat.le_refl _)
          · refine lv_iload_n hx hb dDe_learn_37 rfl (lv_at hl 2 rfl) ?_
            refine lv_aload_n hx hb dDe_learn_38 rfl (lv_at hl 0 rfl) ?_
            refine va_get (D := (dC, dI)) (ci := 7) (v := .ref (b 7)) (C := RDe) (T := TDe) (N := 10) hx hb hts inDe hown hK hP 0 rfl rfl 2 (by decide) (hts _ tw_194) (fun _ h9 => h9) rfl dDe_learn_39 ?_
            refine ct_i (va_runV (As := []) (rest := [.int f9]) ⟨hx, hb, hml, hown, hts⟩ (kSo_frames l dC dI k b P I D _ n (by omega) h4) (cwV 0 hts (gw_V tw_446 tw_447 tw_448 tw_4 tw_449) rfl rfl rfl (by decide +kernel) ⟨Nat.le_of_ble_eq_true rfl, Nat.le_of_ble_eq_true rfl⟩) ⟨ct_blind (ev := (fun _ => True)) (fun _ _ _ _ h => h), va_recv hK hP (ci := 3) (q0 := 7) rfl rfl, ct_now (ev := (fun _ => True)) (fun _ _ _ => trivial) hP hK hD⟩ rfl rfl hl.1 rfl (lv_room (Nat.le_of_ble_eq_true rfl)) dDe_learn_42 ⟨Nat.le_of_ble_eq_true rfl, Nat.le_of_ble_eq_true rfl⟩) hD hS hA (fun r1 u1 H locs hw1 hP hD hS => ?_)
            rw [nf0 hn] at hw1
            subst hw1
            refine lv_iload_n hx hb dDe_learn_45 rfl (lv_at hl 3 rfl) ?_
            refine lv_isub hx hb dDe_learn_46 ?_
            refine lv_icmp_gt (tgt := 62) hx hb dDe_learn_47 (by decide) (fun c47 => ?_) (fun c47 => ?_)
            · exact th_throw hx hb hln (cls := th_IO) (text := "a frame is not there, or there are 6 patterns") hown hP0 hAe hts hE.2 (by decide +kernel) t3_77_157 th_IO_w (hl.1.trans hml.symm) htab dDe_learn_62 dDe_learn_65 dDe_learn_66 dDe_learn_68 dDe_learn_71 hlocks I (⟨rfl, Or.inr ⟨rfl, hL, q, q1, q2, rfl⟩⟩) hP hD hS (Nat.le_of_ble_eq_true rfl) (Nat.le_of_ble_eq_true rfl) (Nat.le_of_ble_eq_true rfl) (Nat.le_of_ble_eq_true rfl) (Nat.le_refl _) (Nat.le_refl _)
            · exact absurd (ln_gt c34 q1 q2) c47
        · exact th_throw hx hb hln (cls := th_IA) (text := "letters are 97 to 122, a pattern has 1 to 8 rows") hown hP0 hAe hts hE.2 (by decide +kernel) t3_67_154 th_IA_w (hl.1.trans hml.symm) htab dDe_learn_23 dDe_learn_26 dDe_learn_27 dDe_learn_29 dDe_learn_32 hlocks I (⟨rfl, Or.inl ⟨rfl, by first | (exact fun z => dn_lo (by decide) (by decide) c3 z.1) | (exact fun z => dn_hi (by decide) c20 z.2) | (exact fun z => dn_lo (by decide) (by decide) c14 z.2) | (exact fun z => dn_hi (by decide) (Int32.not_le.mpr c9) z.1)⟩⟩) hP hD hS (Nat.le_of_ble_eq_true rfl) (Nat.le_of_ble_eq_true rfl) (Nat.le_of_ble_eq_true rfl) (Nat.le_of_ble_eq_true rfl) (Nat.le_refl _) (Nat.le_refl _)
set_option maxHeartbeats 4000000 in
set_option maxRecDepth 100000 in
theorem kDe_forget0 (l : Launch) (hln : l.stackTraces = false) (dC : Nat → ClassId) (dI : Nat → Nat → Nat) (k : Nat → ClassId) (b P : Nat → Nat) (I : Nat → Nat → Int32) (D : Nat → Nat → UInt64) (sz : Nat) (k9 : Int32) (h0 : I 0 6 = nI 0) : ex_Met l yDe_forget wDe_forget ({ frames := 6, cells := 1, slots := 6, locals := 82 }) (va_Pc [.ref (b 0), .int k9] (ct_pre (dC, dI) (de_ty k) ev_D (wd k b P I D) sz)) (va_Qi (fun _ (_ : Nat → Nat → Int32) => False) (fun u t => ct_at (dC, dI) (va_A (wd k b P I D) sz) ((fun u => wd k b P u D) u) t) (va_A (wd k b P I D) sz)) (ct_X (dC, dI) (va_A (wd k b P I D) sz) (fun E (u : Nat → Nat → Int32) => u = I ∧ E = th_NS) (fun u => wd k b P u D)) 1 6 (va_A (wd k b P I D) sz) := by
  refine ex_met (cc := cDe_forget) (maxL := 2) (ret := (some .int)) (by decide) rfl ?_
  intro p e s m args below meth c s₁ B hml htab hv
  obtain ⟨rfl, hsz, hP, hK, hD0, hE⟩ := hv
  have hx := B.exec
  have hb := B.bytes
  have hr := B.returns
  have hts : ∀ w ∈ W0, w.before [.ref (b 0), .int k9].toArray s = true := fun w h => atoms_spec (ws := wDe_forget) B.pre w (List.mem_cons_of_mem _ h)
  have hown : s.vm.findClass RDe = some m.cls := findClass_of_methodNamed B.named
  have hlocks := B.notSynchronized
  subst hsz
  have hP0 := hP
  have hD := hD0.self (sz := s.heap.size)
  generalize hAe : va_A (wd k b P I D) s.heap.size = A at hD ⊢
  have hA : ∀ q : Nat, s.heap.size ≤ q → A q := fun q h => by rw [← hAe]; exact Or.inr h
  have hS : va_S A s.heap s.heap [] := va_S.rf
  have hl := lv_entry ([.ref (b 0), .int k9]) (n := 2) (Nat.le_of_ble_eq_true rfl)
  rw [lg_entry_eq]
  generalize (lg_sl ([.ref (b 0), .int k9]) ++ List.replicate (2 - (lg_sl ([.ref (b 0), .int k9])).length) Slot.unset).toArray = ls at hl ⊢
  have hl : lv_has ls 2 [(0, .ref (b 0)), (1, .int k9)] := hl
  refine lv_iload_n hx hb dDe_forget_0 rfl (lv_at hl 1 rfl) ?_
  refine lv_if_lt (tgt := 15) hx hb dDe_forget_1 (by decide) (fun c1 => ?_) (fun c1 => ?_)
  · exact th_throwN hx hb hln (text := "there is no such pattern") hown hP0 hAe hts hE.2 t3_162_164 (hl.1.trans hml.symm) htab dDe_forget_15 dDe_forget_18 dDe_forget_19 dDe_forget_21 dDe_forget_24 hlocks I (⟨rfl, rfl⟩) hP hD hS (Nat.le_of_ble_eq_true rfl) (Nat.le_of_ble_eq_true rfl) (Nat.le_of_ble_eq_true rfl) (Nat.le_of_ble_eq_true rfl) (Nat.le_refl _) (Nat.le_refl _)
  · refine lv_iload_n hx hb dDe_forget_4 rfl (lv_at hl 1 rfl) ?_
    refine lv_aload_n hx hb dDe_forget_5 rfl (lv_at hl 0 rfl) ?_
    refine va_get (D := (dC, dI)) (ci := 7) (v := .ref (b 12)) (C := RDe) (T := TDe) (N := 10) hx hb hts inDe hown hK hP 0 rfl rfl 3 (by decide) (hts _ tw_195) (fun _ h9 => h9) rfl dDe_forget_6 ?_
    refine va_getN (D := (dC, dI)) (ci := 2) (v := .int (I 0 6)) (C := RBo) (T := TBo) (N := 3) hx hb hts inBo hown hK hP 12 rfl rfl 2 (by decide) (va_Nw.use rfl (hE.1 _ en_135)) (fun _ h9 => h9) rfl dDe_forget_9 ?_
    refine rw_i (y := nI 0) h0 ?_
    refine lv_icmp_lt (tgt := 25) hx hb dDe_forget_12 (by decide) (fun c12 => ?_) (fun c12 => ?_)
    · exact absurd (show k9 < 0 from c12) c1
    · exact th_throwN hx hb hln (text := "there is no such pattern") hown hP0 hAe hts hE.2 t3_162_164 (hl.1.trans hml.symm) htab dDe_forget_15 dDe_forget_18 dDe_forget_19 dDe_forget_21 dDe_forget_24 hlocks I (⟨rfl, rfl⟩) hP hD hS (Nat.le_of_ble_eq_true rfl) (Nat.le_of_ble_eq_true rfl) (Nat.le_of_ble_eq_true rfl) (Nat.le_of_ble_eq_true rfl) (Nat.le_refl _) (Nat.le_refl _)
set_option maxHeartbeats 4000000 in
set_option maxRecDepth 100000 in
theorem kDe_warp0 (l : Launch) (hln : l.stackTraces = false) (dC : Nat → ClassId) (dI : Nat → Nat → Nat) (k : Nat → ClassId) (b P : Nat → Nat) (I : Nat → Nat → Int32) (D : Nat → Nat → UInt64) (sz : Nat) (k9 j9 : Int32) (h0 : I 0 6 = nI 0) : ex_Met l yDe_warp wDe_warp ({ frames := 6, cells := 1, slots := 6, locals := 82 }) (va_Pc [.ref (b 0), .int k9, .int j9] (ct_pre (dC, dI) (de_ty k) ev_D (wd k b P I D) sz)) (va_Qd (fun _ (_ : Nat → Nat → Int32) => False) (fun u t => ct_at (dC, dI) (va_A (wd k b P I D) sz) ((fun u => wd k b P u D) u) t) (va_A (wd k b P I D) sz)) (ct_X (dC, dI) (va_A (wd k b P I D) sz) (fun E (u : Nat → Nat → Int32) => u = I ∧ E = th_NS) (fun u => wd k b P u D)) 1 6 (va_A (wd k b P I D) sz) := by
  refine ex_met (cc := cDe_warp) (maxL := 3) (ret := (some .double)) (by decide) rfl ?_
  intro p e s m args below meth c s₁ B hml htab hv
  obtain ⟨rfl, hsz, hP, hK, hD0, hE⟩ := hv
  have hx := B.exec
  have hb := B.bytes
  have hr := B.returns
  have hts : ∀ w ∈ W0, w.before [.ref (b 0), .int k9, .int j9].toArray s = true := fun w h => atoms_spec (ws := wDe_warp) B.pre w (List.mem_cons_of_mem _ h)
  have hown : s.vm.findClass RDe = some m.cls := findClass_of_methodNamed B.named
  have hlocks := B.notSynchronized
  subst hsz
  have hP0 := hP
  have hD := hD0.self (sz := s.heap.size)
  generalize hAe : va_A (wd k b P I D) s.heap.size = A at hD ⊢
  have hA : ∀ q : Nat, s.heap.size ≤ q → A q := fun q h => by rw [← hAe]; exact Or.inr h
  have hS : va_S A s.heap s.heap [] := va_S.rf
  have hl := lv_entry ([.ref (b 0), .int k9, .int j9]) (n := 3) (Nat.le_of_ble_eq_true rfl)
  rw [lg_entry_eq]
  generalize (lg_sl ([.ref (b 0), .int k9, .int j9]) ++ List.replicate (3 - (lg_sl ([.ref (b 0), .int k9, .int j9])).length) Slot.unset).toArray = ls at hl ⊢
  have hl : lv_has ls 3 [(0, .ref (b 0)), (1, .int k9), (2, .int j9)] := hl
  refine lv_iload_n hx hb dDe_warp_0 rfl (lv_at hl 1 rfl) ?_
  refine lv_if_lt (tgt := 30) hx hb dDe_warp_1 (by decide) (fun c1 => ?_) (fun c1 => ?_)
  · exact th_throwN hx hb hln (text := "there is no such pattern") hown hP0 hAe hts hE.2 t3_162_164 (hl.1.trans hml.symm) htab dDe_warp_30 dDe_warp_33 dDe_warp_34 dDe_warp_36 dDe_warp_39 hlocks I (⟨rfl, rfl⟩) hP hD hS (Nat.le_of_ble_eq_true rfl) (Nat.le_of_ble_eq_true rfl) (Nat.le_of_ble_eq_true rfl) (Nat.le_of_ble_eq_true rfl) (Nat.le_refl _) (Nat.le_refl _)
  · refine lv_iload_n hx hb dDe_warp_4 rfl (lv_at hl 1 rfl) ?_
    refine lv_aload_n hx hb dDe_warp_5 rfl (lv_at hl 0 rfl) ?_
    refine va_get (D := (dC, dI)) (ci := 7) (v := .ref (b 12)) (C := RDe) (T := TDe) (N := 10) hx hb hts inDe hown hK hP 0 rfl rfl 3 (by decide) (hts _ tw_195) (fun _ h9 => h9) rfl dDe_warp_6 ?_
    refine va_getN (D := (dC, dI)) (ci := 2) (v := .int (I 0 6)) (C := RBo) (T := TBo) (N := 3) hx hb hts inBo hown hK hP 12 rfl rfl 2 (by decide) (va_Nw.use rfl (hE.1 _ en_135)) (fun _ h9 => h9) rfl dDe_warp_9 ?_
    refine rw_i (y := nI 0) h0 ?_
    refine lv_icmp_ge (tgt := 30) hx hb dDe_warp_12 (by decide) (fun c12 => ?_) (fun c12 => ?_)
    · exact th_throwN hx hb hln (text := "there is no such pattern") hown hP0 hAe hts hE.2 t3_162_164 (hl.1.trans hml.symm) htab dDe_warp_30 dDe_warp_33 dDe_warp_34 dDe_warp_36 dDe_warp_39 hlocks I (⟨rfl, rfl⟩) hP hD hS (Nat.le_of_ble_eq_true rfl) (Nat.le_of_ble_eq_true rfl) (Nat.le_of_ble_eq_true rfl) (Nat.le_of_ble_eq_true rfl) (Nat.le_refl _) (Nat.le_refl _)
    · exact absurd (Int32.not_lt.mp c1) c12
set_option maxHeartbeats 4000000 in
set_option maxRecDepth 100000 in
theorem kDe_word0 (l : Launch) (hln : l.stackTraces = false) (dC : Nat → ClassId) (dI : Nat → Nat → Nat) (k : Nat → ClassId) (b P : Nat → Nat) (I : Nat → Nat → Int32) (D : Nat → Nat → UInt64) (sz : Nat) (k9 j9 : Int32) (h0 : I 0 7 = nI 0) : ex_Met l yDe_word wDe_word ({ frames := 6, cells := 1, slots := 6, locals := 82 }) (va_Pc [.ref (b 0), .int k9, .int j9] (ct_pre (dC, dI) (de_ty k) ev_D (wd k b P I D) sz)) (va_Qi (fun _ (_ : Nat → Nat → Int32) => False) (fun u t => ct_at (dC, dI) (va_A (wd k b P I D) sz) ((fun u => wd k b P u D) u) t) (va_A (wd k b P I D) sz)) (ct_X (dC, dI) (va_A (wd k b P I D) sz) (fun E (u : Nat → Nat → Int32) => u = I ∧ E = th_NS) (fun u => wd k b P u D)) 1 6 (va_A (wd k b P I D) sz) := by
  refine ex_met (cc := cDe_word) (maxL := 4) (ret := (some .int)) (by decide) rfl ?_
  intro p e s m args below meth c s₁ B hml htab hv
  obtain ⟨rfl, hsz, hP, hK, hD0, hE⟩ := hv
  have hx := B.exec
  have hb := B.bytes
  have hr := B.returns
  have hts : ∀ w ∈ W0, w.before [.ref (b 0), .int k9, .int j9].toArray s = true := fun w h => atoms_spec (ws := wDe_word) B.pre w (List.mem_cons_of_mem _ h)
  have hown : s.vm.findClass RDe = some m.cls := findClass_of_methodNamed B.named
  have hlocks := B.notSynchronized
  subst hsz
  have hP0 := hP
  have hD := hD0.self (sz := s.heap.size)
  generalize hAe : va_A (wd k b P I D) s.heap.size = A at hD ⊢
  have hA : ∀ q : Nat, s.heap.size ≤ q → A q := fun q h => by rw [← hAe]; exact Or.inr h
  have hS : va_S A s.heap s.heap [] := va_S.rf
  have hl := lv_entry ([.ref (b 0), .int k9, .int j9]) (n := 4) (Nat.le_of_ble_eq_true rfl)
  rw [lg_entry_eq]
  generalize (lg_sl ([.ref (b 0), .int k9, .int j9]) ++ List.replicate (4 - (lg_sl ([.ref (b 0), .int k9, .int j9])).length) Slot.unset).toArray = ls at hl ⊢
  have hl : lv_has ls 4 [(0, .ref (b 0)), (1, .int k9), (2, .int j9)] := hl
  refine lv_iload_n hx hb dDe_word_0 rfl (lv_at hl 1 rfl) ?_
  refine lv_if_lt (tgt := 15) hx hb dDe_word_1 (by decide) (fun c1 => ?_) (fun c1 => ?_)
  · exact th_throwN hx hb hln (text := "there is no such word") hown hP0 hAe hts hE.2 t3_162_205 (hl.1.trans hml.symm) htab dDe_word_15 dDe_word_18 dDe_word_19 dDe_word_21 dDe_word_24 hlocks I (⟨rfl, rfl⟩) hP hD hS (Nat.le_of_ble_eq_true rfl) (Nat.le_of_ble_eq_true rfl) (Nat.le_of_ble_eq_true rfl) (Nat.le_of_ble_eq_true rfl) (Nat.le_refl _) (Nat.le_refl _)
  · refine lv_iload_n hx hb dDe_word_4 rfl (lv_at hl 1 rfl) ?_
    refine lv_aload_n hx hb dDe_word_5 rfl (lv_at hl 0 rfl) ?_
    refine va_get (D := (dC, dI)) (ci := 7) (v := .ref (b 15)) (C := RDe) (T := TDe) (N := 10) hx hb hts inDe hown hK hP 0 rfl rfl 4 (by decide) (hts _ tw_196) (fun _ h9 => h9) rfl dDe_word_6 ?_
    refine va_getN (D := (dC, dI)) (ci := 6) (v := .int (I 0 7)) (C := RLi) (T := TLi) (N := 2) hx hb hts inLi hown hK hP 15 rfl rfl 1 (by decide) (va_Nw.use rfl (hE.1 _ en_184)) (fun _ h9 => h9) rfl dDe_word_9 ?_
    refine rw_i (y := nI 0) h0 ?_
    refine lv_icmp_lt (tgt := 25) hx hb dDe_word_12 (by decide) (fun c12 => ?_) (fun c12 => ?_)
    · exact absurd (show k9 < 0 from c12) c1
    · exact th_throwN hx hb hln (text := "there is no such word") hown hP0 hAe hts hE.2 t3_162_205 (hl.1.trans hml.symm) htab dDe_word_15 dDe_word_18 dDe_word_19 dDe_word_21 dDe_word_24 hlocks I (⟨rfl, rfl⟩) hP hD hS (Nat.le_of_ble_eq_true rfl) (Nat.le_of_ble_eq_true rfl) (Nat.le_of_ble_eq_true rfl) (Nat.le_of_ble_eq_true rfl) (Nat.le_refl _) (Nat.le_refl _)
set_option maxHeartbeats 4000000 in
set_option maxRecDepth 100000 in
theorem kDe_cost0 (l : Launch) (hln : l.stackTraces = false) (dC : Nat → ClassId) (dI : Nat → Nat → Nat) (k : Nat → ClassId) (b P : Nat → Nat) (I : Nat → Nat → Int32) (D : Nat → Nat → UInt64) (sz : Nat) (k9 : Int32) (h0 : I 0 7 = nI 0) : ex_Met l yDe_cost wDe_cost ({ frames := 6, cells := 1, slots := 6, locals := 82 }) (va_Pc [.ref (b 0), .int k9] (ct_pre (dC, dI) (de_ty k) ev_D (wd k b P I D) sz)) (va_Qd (fun _ (_ : Nat → Nat → Int32) => False) (fun u t => ct_at (dC, dI) (va_A (wd k b P I D) sz) ((fun u => wd k b P u D) u) t) (va_A (wd k b P I D) sz)) (ct_X (dC, dI) (va_A (wd k b P I D) sz) (fun E (u : Nat → Nat → Int32) => u = I ∧ E = th_NS) (fun u => wd k b P u D)) 1 6 (va_A (wd k b P I D) sz) := by
  refine ex_met (cc := cDe_cost) (maxL := 2) (ret := (some .double)) (by decide) rfl ?_
  intro p e s m args below meth c s₁ B hml htab hv
  obtain ⟨rfl, hsz, hP, hK, hD0, hE⟩ := hv
  have hx := B.exec
  have hb := B.bytes
  have hr := B.returns
  have hts : ∀ w ∈ W0, w.before [.ref (b 0), .int k9].toArray s = true := fun w h => atoms_spec (ws := wDe_cost) B.pre w (List.mem_cons_of_mem _ h)
  have hown : s.vm.findClass RDe = some m.cls := findClass_of_methodNamed B.named
  have hlocks := B.notSynchronized
  subst hsz
  have hP0 := hP
  have hD := hD0.self (sz := s.heap.size)
  generalize hAe : va_A (wd k b P I D) s.heap.size = A at hD ⊢
  have hA : ∀ q : Nat, s.heap.size ≤ q → A q := fun q h => by rw [← hAe]; exact Or.inr h
  have hS : va_S A s.heap s.heap [] := va_S.rf
  have hl := lv_entry ([.ref (b 0), .int k9]) (n := 2) (Nat.le_of_ble_eq_true rfl)
  rw [lg_entry_eq]
  generalize (lg_sl ([.ref (b 0), .int k9]) ++ List.replicate (2 - (lg_sl ([.ref (b 0), .int k9])).length) Slot.unset).toArray = ls at hl ⊢
  have hl : lv_has ls 2 [(0, .ref (b 0)), (1, .int k9)] := hl
  refine lv_iload_n hx hb dDe_cost_0 rfl (lv_at hl 1 rfl) ?_
  refine lv_if_lt (tgt := 15) hx hb dDe_cost_1 (by decide) (fun c1 => ?_) (fun c1 => ?_)
  · exact th_throwN hx hb hln (text := "there is no such word") hown hP0 hAe hts hE.2 t3_162_205 (hl.1.trans hml.symm) htab dDe_cost_15 dDe_cost_18 dDe_cost_19 dDe_cost_21 dDe_cost_24 hlocks I (⟨rfl, rfl⟩) hP hD hS (Nat.le_of_ble_eq_true rfl) (Nat.le_of_ble_eq_true rfl) (Nat.le_of_ble_eq_true rfl) (Nat.le_of_ble_eq_true rfl) (Nat.le_refl _) (Nat.le_refl _)
  · refine lv_iload_n hx hb dDe_cost_4 rfl (lv_at hl 1 rfl) ?_
    refine lv_aload_n hx hb dDe_cost_5 rfl (lv_at hl 0 rfl) ?_
    refine va_get (D := (dC, dI)) (ci := 7) (v := .ref (b 15)) (C := RDe) (T := TDe) (N := 10) hx hb hts inDe hown hK hP 0 rfl rfl 4 (by decide) (hts _ tw_196) (fun _ h9 => h9) rfl dDe_cost_6 ?_
    refine va_getN (D := (dC, dI)) (ci := 6) (v := .int (I 0 7)) (C := RLi) (T := TLi) (N := 2) hx hb hts inLi hown hK hP 15 rfl rfl 1 (by decide) (va_Nw.use rfl (hE.1 _ en_184)) (fun _ h9 => h9) rfl dDe_cost_9 ?_
    refine rw_i (y := nI 0) h0 ?_
    refine lv_icmp_lt (tgt := 25) hx hb dDe_cost_12 (by decide) (fun c12 => ?_) (fun c12 => ?_)
    · exact absurd (show k9 < 0 from c12) c1
    · exact th_throwN hx hb hln (text := "there is no such word") hown hP0 hAe hts hE.2 t3_162_205 (hl.1.trans hml.symm) htab dDe_cost_15 dDe_cost_18 dDe_cost_19 dDe_cost_21 dDe_cost_24 hlocks I (⟨rfl, rfl⟩) hP hD hS (Nat.le_of_ble_eq_true rfl) (Nat.le_of_ble_eq_true rfl) (Nat.le_of_ble_eq_true rfl) (Nat.le_of_ble_eq_true rfl) (Nat.le_refl _) (Nat.le_refl _)
set_option maxHeartbeats 4000000 in
set_option maxRecDepth 100000 in
theorem kDe_hear0 (l : Launch) (hln : l.stackTraces = false) (dC : Nat → ClassId) (dI : Nat → Nat → Nat) (k : Nat → ClassId) (b P : Nat → Nat) (I : Nat → Nat → Int32) (D : Nat → Nat → UInt64) (sz : Nat) (n : Nat) (hn : n < 32) (h4 : I 0 4 = nI n) : ex_Met l yDe_hear wDe_hear ({ frames := 6, cells := 1, slots := 6, locals := 82 }) (va_Pc [.ref (b 0)] (ct_pre (dC, dI) (de_ty k) ev_D (wd k b P I D) sz)) (va_Qi (fun _ (_ : Nat → Nat → Int32) => False) (fun u t => ct_at (dC, dI) (va_A (wd k b P I D) sz) ((fun u => wd k b P u D) u) t) (va_A (wd k b P I D) sz)) (ct_X (dC, dI) (va_A (wd k b P I D) sz) (fun E (u : Nat → Nat → Int32) => u = I ∧ E = th_IS) (fun u => wd k b P u D)) 1 6 (va_A (wd k b P I D) sz) := by
  refine ex_met (cc := cDe_hear) (maxL := 2) (ret := (some .int)) (by decide) rfl ?_
  intro p e s m args below meth c s₁ B hml htab hv
  obtain ⟨rfl, hsz, hP, hK, hD0, hE⟩ := hv
  have hx := B.exec
  have hb := B.bytes
  have hr := B.returns
  have hts : ∀ w ∈ W0, w.before [.ref (b 0)].toArray s = true := fun w h => atoms_spec (ws := wDe_hear) B.pre w (List.mem_cons_of_mem _ h)
  have hown : s.vm.findClass RDe = some m.cls := findClass_of_methodNamed B.named
  have hlocks := B.notSynchronized
  subst hsz
  have hP0 := hP
  have hD := hD0.self (sz := s.heap.size)
  generalize hAe : va_A (wd k b P I D) s.heap.size = A at hD ⊢
  have hA : ∀ q : Nat, s.heap.size ≤ q → A q := fun q h => by rw [← hAe]; exact Or.inr h
  have hS : va_S A s.heap s.heap [] := va_S.rf
  have hl := lv_entry ([.ref (b 0)]) (n := 2) (Nat.le_of_ble_eq_true rfl)
  rw [lg_entry_eq]
  generalize (lg_sl ([.ref (b 0)]) ++ List.replicate (2 - (lg_sl ([.ref (b 0)])).length) Slot.unset).toArray = ls at hl ⊢
  have hl : lv_has ls 2 [(0, .ref (b 0))] := hl
  refine lv_aload_n hx hb dDe_hear_0 rfl (lv_at hl 0 rfl) ?_
  refine va_get (D := (dC, dI)) (ci := 7) (v := .ref (b 7)) (C := RDe) (T := TDe) (N := 10) hx hb hts inDe hown hK hP 0 rfl rfl 2 (by decide) (hts _ tw_194) (fun _ h9 => h9) rfl dDe_hear_1 ?_
  refine ct_i (va_runV (As := []) (rest := []) ⟨hx, hb, hml, hown, hts⟩ (kSo_frames l dC dI k b P I D _ n (by omega) h4) (cwV 0 hts (gw_V tw_446 tw_447 tw_448 tw_4 tw_449) rfl rfl rfl (by decide +kernel) ⟨Nat.le_of_ble_eq_true rfl, Nat.le_of_ble_eq_true rfl⟩) ⟨ct_blind (ev := (fun _ => True)) (fun _ _ _ _ h => h), va_recv hK hP (ci := 3) (q0 := 7) rfl rfl, ct_now (ev := (fun _ => True)) (fun _ _ _ => trivial) hP hK hD⟩ rfl rfl hl.1 rfl (lv_room (Nat.le_of_ble_eq_true rfl)) dDe_hear_4 ⟨Nat.le_of_ble_eq_true rfl, Nat.le_of_ble_eq_true rfl⟩) hD hS hA (fun r1 u1 H locs hw1 hP hD hS => ?_)
  rw [nf0 hn] at hw1
  subst hw1
  refine lv_if_ne (tgt := 20) hx hb dDe_hear_7 (by decide) (fun c7 => ?_) (fun c7 => ?_)
  · have c7 : ¬ 0 = 0 := fun q9 => c7 (show nI 0 = nI 0 from (nI_eq (a := 0) (b := 0) (by omega) (by omega)).mpr q9)
    exact absurd (by decide) c7
  · have c7 : 0 = 0 := (nI_eq (a := 0) (b := 0) (by omega) (by omega)).mp (show nI 0 = nI 0 from c7)
    exact th_throw hx hb hln (cls := th_IS) (text := "there is no frame") hown hP0 hAe hts hE.2 (by decide +kernel) t3_185_187 th_IS_w (hl.1.trans hml.symm) htab dDe_hear_10 dDe_hear_13 dDe_hear_14 dDe_hear_16 dDe_hear_19 hlocks I (⟨rfl, rfl⟩) hP hD hS (Nat.le_of_ble_eq_true rfl) (Nat.le_of_ble_eq_true rfl) (Nat.le_of_ble_eq_true rfl) (Nat.le_of_ble_eq_true rfl) (Nat.le_refl _) (Nat.le_refl _)
set_option maxHeartbeats 4000000 in
set_option maxRecDepth 100000 in
theorem kSo_judge0 (l : Launch) (dC : Nat → ClassId) (dI : Nat → Nat → Nat) (k : Nat → ClassId) (b P : Nat → Nat) (I : Nat → Nat → Int32) (D : Nat → Nat → UInt64) (sz : Nat) (n : Nat) (hn : n < 32) (h4 : I 0 4 = nI n) (jd : Nat) (hjd : jd < 100) (h5 : I 0 5 = nI jd) : Met l ySo_judge wSo_judge ({ frames := 1, cells := 0, slots := 0, locals := 20 }) (va_Pc [.ref (b 7)] (ct_pre (dC, dI) (de_ty k) (fun _ => True) (wd k b P I D) sz)) (va_Qv (fun (u : Nat → Nat → Int32) => u = ui I 0 5 (nI 0)) (fun u t => ct_at (dC, dI) (va_A (wd k b P I D) sz) ((fun u => wd k b P u D) u) t) (va_A (wd k b P I D) sz)) 0 0 (va_A (wd k b P I D) sz) := by
  refine Met.ofW (cc := cSo_judge) (maxL := 3) (ret := none) (by decide) rfl ?_
  intro p e s m args below meth c s₁ B hml hv
  obtain ⟨rfl, hsz, hP, hK, hD0, hE⟩ := hv
  have hx := B.exec
  have hb := B.bytes
  have hr := B.returns
  have hts : ∀ w ∈ W0, w.before [.ref (b 7)].toArray s = true := fun w h => atoms_spec (ws := wSo_judge) B.pre w (List.mem_cons_of_mem _ h)
  have hown : s.vm.findClass RSo = some m.cls := findClass_of_methodNamed B.named
  have hlocks := B.notSynchronized
  subst hsz
  have hP0 := hP
  have hD := hD0.self (sz := s.heap.size)
  generalize hAe : va_A (wd k b P I D) s.heap.size = A at hD ⊢
  have hA : ∀ q : Nat, s.heap.size ≤ q → A q := fun q h => by rw [← hAe]; exact Or.inr h
  have hS : va_S A s.heap s.heap [] := va_S.rf
  have hl := lv_entry ([.ref (b 7)]) (n := 3) (Nat.le_of_ble_eq_true rfl)
  rw [lg_entry_eq]
  generalize (lg_sl ([.ref (b 7)]) ++ List.replicate (3 - (lg_sl ([.ref (b 7)])).length) Slot.unset).toArray = ls at hl ⊢
  have hl : lv_has ls 3 [(0, .ref (b 7))] := hl
  refine lv_aload_n hx hb dSo_judge_0 rfl (lv_at hl 0 rfl) ?_
  refine ct_i (va_runV (As := []) (rest := []) ⟨hx, hb, hml, hown, hts⟩ (kSo_frames l dC dI k b P I D _ n (by omega) h4) (cwV 0 hts (gw_V tw_473 tw_447 tw_448 tw_4 tw_449) rfl rfl rfl (by decide +kernel) ⟨Nat.le_of_ble_eq_true rfl, Nat.le_of_ble_eq_true rfl⟩) ⟨ct_blind (ev := (fun _ => True)) (fun _ _ _ _ h => h), va_recv hK hP (ci := 3) (q0 := 7) rfl rfl, ct_now (ev := (fun _ => True)) (fun _ _ _ => trivial) hP hK hD⟩ rfl rfl hl.1 rfl (lv_room (Nat.le_of_ble_eq_true rfl)) dSo_judge_1 ⟨Nat.le_of_ble_eq_true rfl, Nat.le_of_ble_eq_true rfl⟩) hD hS hA (fun r1 u1 H locs hw1 hP hD hS => ?_)
  rw [nf0 hn] at hw1
  subst hw1
  refine lv_istore_n (lv' := [(1, .int (nI 0)), (0, .ref (b 7))]) hx hb dSo_judge_4 rfl hl (by decide) rfl (fun ls hl => ?_)
  refine lv_aload_n hx hb dSo_judge_5 rfl (lv_at hl 1 rfl) ?_
  refine va_get (D := (dC, dI)) (ci := 3) (v := .int (I 0 5)) (C := RSo) (T := TSo) (N := 7) hx hb hts inSo hown hK hP 7 rfl rfl 6 (by decide) (hts _ tw_84) (fun _ h9 => h9) rfl dSo_judge_6 ?_
  refine rw_i (y := nI jd) h5 ?_
  refine lv_istore_n (lv' := [(2, .int (nI jd)), (1, .int (nI 0)), (0, .ref (b 7))]) hx hb dSo_judge_9 rfl hl (by decide) rfl (fun ls hl => ?_)
  refine lv_iload_n hx hb dSo_judge_10 rfl (lv_at hl 0 rfl) ?_
  refine lv_iload_n hx hb dSo_judge_11 rfl (lv_at hl 1 rfl) ?_
  refine lv_icmp_ge (tgt := 71) hx hb dSo_judge_12 (by decide) (fun c12 => ?_) (fun c12 => ?_)
  · have c12 : 0 ≤ jd := (nI_leI (a := 0) (b := jd) (by omega) (by omega)).mp (show nI 0 ≤ nI jd from c12)
    refine lv_aload_n hx hb dSo_judge_71 rfl (lv_at hl 2 rfl) ?_
    refine lv_iload_n hx hb dSo_judge_72 rfl (lv_at hl 1 rfl) ?_
    refine va_put (D := (dC, dI)) (ci := 3) (fs := so_f b I D) (v := .int (nI 0)) (ty := .int) (C := RSo) (T := TSo) (N := 7) hx hb hts inSo tySo tySo_ok nmSo hown hK hP hD hS 7 rfl rfl 6 (by decide) (hts _ tw_84) (fun _ h9 => h9) rfl (by decide +kernel) rfl rfl (Nat.le_of_ble_eq_true rfl) dSo_judge_73 (fun H locs hP hD hS => ?_)
    rw [wd_p7_6] at hP hD
    obtain ⟨I2, eI2⟩ : ∃ z, z = ui I 0 5 (nI 0) := ⟨_, rfl⟩
    rw [← eI2] at hP hD
    exact ct_rv hx hb hr hlocks I2 (by rw [eI2]) hP hD hS (Nat.le_refl _) (Nat.le_refl _) dSo_judge_76
  · have c12 : ¬ 0 ≤ jd := fun q9 => c12 (show nI 0 ≤ nI jd from (nI_leI (a := 0) (b := jd) (by omega) (by omega)).mpr q9)
    exact absurd (Nat.zero_le _) c12
set_option maxHeartbeats 4000000 in
set_option maxRecDepth 100000 in
theorem kDe_loudFrames0 (l : Launch) (dC : Nat → ClassId) (dI : Nat → Nat → Nat) (k : Nat → ClassId) (b P : Nat → Nat) (I : Nat → Nat → Int32) (D : Nat → Nat → UInt64) (sz : Nat) (n : Nat) (hn : n < 32) (h4 : I 0 4 = nI n) (jd : Nat) (hjd : jd < 100) (h5 : I 0 5 = nI jd) : Met l yDe_loudFrames wDe_loudFrames ({ frames := 2, cells := 0, slots := 0, locals := 42 }) (va_Pc [.ref (b 0)] (ct_pre (dC, dI) (de_ty k) ev_N (wd k b P I D) sz)) (va_Qi (fun r (u : Nat → Nat → Int32) => r = nI 0 ∧ u = ui I 0 5 (nI 0)) (fun u t => ct_at (dC, dI) (va_A (wd k b P I D) sz) ((fun u => wd k b P u D) u) t) (va_A (wd k b P I D) sz)) 0 0 (va_A (wd k b P I D) sz) := by
  refine Met.ofW (cc := cDe_loudFrames) (maxL := 3) (ret := (some .int)) (by decide) rfl ?_
  intro p e s m args below meth c s₁ B hml hv
  obtain ⟨rfl, hsz, hP, hK, hD0, hE⟩ := hv
  have hx := B.exec
  have hb := B.bytes
  have hr := B.returns
  have hts : ∀ w ∈ W0, w.before [.ref (b 0)].toArray s = true := fun w h => atoms_spec (ws := wDe_loudFrames) B.pre w (List.mem_cons_of_mem _ h)
  have hown : s.vm.findClass RDe = some m.cls := findClass_of_methodNamed B.named
  have hlocks := B.notSynchronized
  subst hsz
  have hP0 := hP
  have hD := hD0.self (sz := s.heap.size)
  generalize hAe : va_A (wd k b P I D) s.heap.size = A at hD ⊢
  have hA : ∀ q : Nat, s.heap.size ≤ q → A q := fun q h => by rw [← hAe]; exact Or.inr h
  have hS : va_S A s.heap s.heap [] := va_S.rf
  have hl := lv_entry ([.ref (b 0)]) (n := 3) (Nat.le_of_ble_eq_true rfl)
  rw [lg_entry_eq]
  generalize (lg_sl ([.ref (b 0)]) ++ List.replicate (3 - (lg_sl ([.ref (b 0)])).length) Slot.unset).toArray = ls at hl ⊢
  have hl : lv_has ls 3 [(0, .ref (b 0))] := hl
  refine lv_aload_n hx hb dDe_loudFrames_0 rfl (lv_at hl 0 rfl) ?_
  refine va_get (D := (dC, dI)) (ci := 7) (v := .ref (b 7)) (C := RDe) (T := TDe) (N := 10) hx hb hts inDe hown hK hP 0 rfl rfl 2 (by decide) (hts _ tw_194) (fun _ h9 => h9) rfl dDe_loudFrames_1 ?_
  refine ct_v (va_runV (As := []) (rest := []) ⟨hx, hb, hml, hown, hts⟩ (kSo_judge0 l dC dI k b P I D _ n hn h4 jd hjd h5) (cwV 0 hts (gw_V tw_469 tw_470 tw_471 tw_4 tw_472) rfl rfl rfl (by decide +kernel) ⟨Nat.le_of_ble_eq_true rfl, Nat.le_of_ble_eq_true rfl⟩) ⟨ct_blind (ev := (fun _ => True)) (fun _ _ _ _ h => h), va_recv hK hP (ci := 3) (q0 := 7) rfl rfl, ct_now (ev := (fun _ => True)) (fun _ _ _ => trivial) hP hK hD⟩ rfl rfl hl.1 rfl (lv_room (Nat.le_of_ble_eq_true rfl)) dDe_loudFrames_4 ⟨Nat.le_of_ble_eq_true rfl, Nat.le_of_ble_eq_true rfl⟩) hD hS hA (fun u1 H locs hw1 hP hD hS => ?_)
  subst hw1
  refine lv_iconst (v := nI 0) hx hb dDe_loudFrames_7 (by decide +kernel) ?_
  refine lv_istore_n (lv' := [(1, .int (nI 0)), (0, .ref (b 0))]) hx hb dDe_loudFrames_8 rfl hl (by decide) rfl (fun ls hl => ?_)
  refine lv_iconst (v := nI 0) hx hb dDe_loudFrames_9 (by decide +kernel) ?_
  refine lv_istore_n (lv' := [(2, .int (nI 0)), (1, .int (nI 0)), (0, .ref (b 0))]) hx hb dDe_loudFrames_10 rfl hl (by decide) rfl (fun ls hl => ?_)
  refine lv_iload_n hx hb dDe_loudFrames_11 rfl (lv_at hl 0 rfl) ?_
  refine lv_aload_n hx hb dDe_loudFrames_12 rfl (lv_at hl 2 rfl) ?_
  refine va_get (D := (dC, dI)) (ci := 7) (v := .ref (b 7)) (C := RDe) (T := TDe) (N := 10) hx hb hts inDe hown hK hP 0 rfl rfl 2 (by decide) (hts _ tw_194) (fun _ h9 => h9) rfl dDe_loudFrames_13 ?_
  refine ct_i (va_runV (As := []) (rest := [.int (nI 0)]) ⟨hx, hb, hml, hown, hts⟩ (kSo_frames l dC dI k b P (ui I 0 5 (nI 0)) D _ n (by omega) (by rw [ui_n _ _ _ (by decide)]; exact h4)) (cwV 0 hts (gw_V tw_446 tw_447 tw_448 tw_4 tw_449) rfl rfl rfl (by decide +kernel) ⟨Nat.le_of_ble_eq_true rfl, Nat.le_of_ble_eq_true rfl⟩) ⟨ct_blind (ev := (fun _ => True)) (fun _ _ _ _ h => h), va_recv hK hP (ci := 3) (q0 := 7) rfl rfl, ct_now (ev := (fun _ => True)) (fun _ _ _ => trivial) hP hK hD⟩ rfl rfl hl.1 rfl (lv_room (Nat.le_of_ble_eq_true rfl)) dDe_loudFrames_16 ⟨Nat.le_of_ble_eq_true rfl, Nat.le_of_ble_eq_true rfl⟩) hD hS hA (fun r2 u2 H locs hw2 hP hD hS => ?_)
  rw [nf0 hn] at hw2
  subst hw2
  refine lv_icmp_ge (tgt := 47) hx hb dDe_loudFrames_19 (by decide) (fun c19 => ?_) (fun c19 => ?_)
  · have c19 : 0 ≤ 0 := (nI_leI (a := 0) (b := 0) (by omega) (by omega)).mp (show nI 0 ≤ nI 0 from c19)
    refine lv_iload_n hx hb dDe_loudFrames_47 rfl (lv_at hl 1 rfl) ?_
    exact ct_ri hx hb hr hlocks (ui I 0 5 (nI 0)) (⟨rfl, rfl⟩) hP hD hS (Nat.le_refl _) (Nat.le_refl _) dDe_loudFrames_48
  · have c19 : ¬ 0 ≤ 0 := fun q9 => c19 (show nI 0 ≤ nI 0 from (nI_leI (a := 0) (b := 0) (by omega) (by omega)).mpr q9)
    exact absurd (by decide) c19
set_option maxHeartbeats 4000000 in
set_option maxRecDepth 100000 in
theorem kDe_count0 (l : Launch) (hln : l.stackTraces = false) (dC : Nat → ClassId) (dI : Nat → Nat → Nat) (k : Nat → ClassId) (b P : Nat → Nat) (I : Nat → Nat → Int32) (D : Nat → Nat → UInt64) (sz : Nat) (wh : Int32) (n : Nat) (hn : n < 32) (h4 : I 0 4 = nI n) (jd : Nat) (hjd : jd < 100) (h5 : I 0 5 = nI jd) : ex_Met l yDe_count wDe_count ({ frames := 6, cells := 1, slots := 6, locals := 82 }) (va_Pc [.ref (b 0), .int wh] (ct_pre (dC, dI) (de_ty k) ev_D (wd k b P I D) sz)) (va_Qi (fun r (u : Nat → Nat → Int32) => ∃ q, 0 ≤ q ∧ q ≤ 6 ∧ wh = nI q ∧ r = dc_ct I q) (fun u t => ct_at (dC, dI) (va_A (wd k b P I D) sz) ((fun u => wd k b P u D) u) t) (va_A (wd k b P I D) sz)) (ct_X (dC, dI) (va_A (wd k b P I D) sz) (fun E (u : Nat → Nat → Int32) => u = I ∧ E = th_IA ∧ ¬ ∃ q, 0 ≤ q ∧ q ≤ 6 ∧ wh = nI q) (fun u => wd k b P u D)) 1 6 (va_A (wd k b P I D) sz) := by
  refine ex_met (cc := cDe_count) (maxL := 2) (ret := (some .int)) (by decide) rfl ?_
  intro p e s m args below meth c s₁ B hml htab hv
  obtain ⟨rfl, hsz, hP, hK, hD0, hE⟩ := hv
  have hx := B.exec
  have hb := B.bytes
  have hr := B.returns
  have hts : ∀ w ∈ W0, w.before [.ref (b 0), .int wh].toArray s = true := fun w h => atoms_spec (ws := wDe_count) B.pre w (List.mem_cons_of_mem _ h)
  have hown : s.vm.findClass RDe = some m.cls := findClass_of_methodNamed B.named
  have hlocks := B.notSynchronized
  subst hsz
  have hP0 := hP
  have hD := hD0.self (sz := s.heap.size)
  generalize hAe : va_A (wd k b P I D) s.heap.size = A at hD ⊢
  have hA : ∀ q : Nat, s.heap.size ≤ q → A q := fun q h => by rw [← hAe]; exact Or.inr h
  have hS : va_S A s.heap s.heap [] := va_S.rf
  have hl := lv_entry ([.ref (b 0), .int wh]) (n := 2) (Nat.le_of_ble_eq_true rfl)
  rw [lg_entry_eq]
  generalize (lg_sl ([.ref (b 0), .int wh]) ++ List.replicate (2 - (lg_sl ([.ref (b 0), .int wh])).length) Slot.unset).toArray = ls at hl ⊢
  have hl : lv_has ls 2 [(0, .ref (b 0)), (1, .int wh)] := hl
  refine lv_iload_n hx hb dDe_count_0 rfl (lv_at hl 1 rfl) ?_
  by_cases hq9 : ∃ q, 0 ≤ q ∧ q ≤ 6 ∧ wh = nI q
  · obtain ⟨q, q1, q2, rfl⟩ := hq9
    rcases (show q = 0 ∨ q = 1 ∨ q = 2 ∨ q = 3 ∨ q = 4 ∨ q = 5 ∨ q = 6 by omega) with rfl | rfl | rfl | rfl | rfl | rfl | rfl
    · refine lv_tableIn (off := 43) (tgt := 44) hx hb dDe_count_1 (by decide +kernel) (by decide +kernel) (by decide +kernel) (by decide) ?_
      refine lv_aload_n hx hb dDe_count_44 rfl (lv_at hl 0 rfl) ?_
      refine va_get (D := (dC, dI)) (ci := 7) (v := .ref (b 1)) (C := RDe) (T := TDe) (N := 10) hx hb hts inDe hown hK hP 0 rfl rfl 0 (by decide) (hts _ tw_192) (fun _ h9 => h9) rfl dDe_count_45 ?_
      refine va_getN (D := (dC, dI)) (ci := 4) (v := .int (I 0 3)) (C := RFi) (T := TFi) (N := 2) hx hb hts inFi hown hK hP 1 rfl rfl 1 (by decide) (va_Nw.use rfl (hE.1 _ en_35)) (fun _ h9 => h9) rfl dDe_count_48 ?_
      exact ex_ret (ct_ri hx hb hr hlocks I (⟨_, q1, q2, rfl, rfl⟩) hP hD hS (Nat.zero_le _) (Nat.zero_le _) dDe_count_51)
    · refine lv_tableIn (off := 51) (tgt := 52) hx hb dDe_count_1 (by decide +kernel) (by decide +kernel) (by decide +kernel) (by decide) ?_
      refine lv_aload_n hx hb dDe_count_52 rfl (lv_at hl 0 rfl) ?_
      refine va_get (D := (dC, dI)) (ci := 7) (v := .ref (b 7)) (C := RDe) (T := TDe) (N := 10) hx hb hts inDe hown hK hP 0 rfl rfl 2 (by decide) (hts _ tw_194) (fun _ h9 => h9) rfl dDe_count_53 ?_
      refine va_getN (D := (dC, dI)) (ci := 3) (v := .int (I 0 4)) (C := RSo) (T := TSo) (N := 7) hx hb hts inSo hown hK hP 7 rfl rfl 5 (by decide) (va_Nw.use rfl (hE.1 _ en_83)) (fun _ h9 => h9) rfl dDe_count_56 ?_
      exact ex_ret (ct_ri hx hb hr hlocks I (⟨_, q1, q2, rfl, rfl⟩) hP hD hS (Nat.zero_le _) (Nat.zero_le _) dDe_count_59)
    · refine lv_tableIn (off := 59) (tgt := 60) hx hb dDe_count_1 (by decide +kernel) (by decide +kernel) (by decide +kernel) (by decide) ?_
      refine lv_aload_n hx hb dDe_count_60 rfl (lv_at hl 0 rfl) ?_
      refine va_get (D := (dC, dI)) (ci := 7) (v := .ref (b 7)) (C := RDe) (T := TDe) (N := 10) hx hb hts inDe hown hK hP 0 rfl rfl 2 (by decide) (hts _ tw_194) (fun _ h9 => h9) rfl dDe_count_61 ?_
      refine ct_i (va_runV (As := []) (rest := []) ⟨hx, hb, hml, hown, hts⟩ (kSo_frames l dC dI k b P I D _ n (by omega) h4) (cwV 0 hts (gw_V tw_446 tw_447 tw_448 tw_4 tw_449) rfl rfl rfl (by decide +kernel) ⟨Nat.le_of_ble_eq_true rfl, Nat.le_of_ble_eq_true rfl⟩) ⟨ct_blind (ev := (fun _ => True)) (fun _ _ _ _ h => h), va_recv hK hP (ci := 3) (q0 := 7) rfl rfl, ct_now (ev := (fun _ => True)) (fun _ _ _ => trivial) hP hK hD⟩ rfl rfl hl.1 rfl (lv_room (Nat.le_of_ble_eq_true rfl)) dDe_count_64 ⟨Nat.le_of_ble_eq_true rfl, Nat.le_of_ble_eq_true rfl⟩) hD hS hA (fun r1 u1 H locs hw1 hP hD hS => ?_)
      rw [nf0 hn] at hw1
      subst hw1
      exact ex_ret (ct_ri hx hb hr hlocks I (⟨_, q1, q2, rfl, rfl⟩) hP hD hS (Nat.zero_le _) (Nat.zero_le _) dDe_count_67)
    · refine lv_tableIn (off := 67) (tgt := 68) hx hb dDe_count_1 (by decide +kernel) (by decide +kernel) (by decide +kernel) (by decide) ?_
      refine lv_aload_n hx hb dDe_count_68 rfl (lv_at hl 0 rfl) ?_
      refine va_get (D := (dC, dI)) (ci := 7) (v := .int (I 0 0)) (C := RDe) (T := TDe) (N := 10) hx hb hts inDe hown hK hP 0 rfl rfl 5 (by decide) (hts _ tw_197) (fun _ h9 => h9) rfl dDe_count_69 ?_
      exact ex_ret (ct_ri hx hb hr hlocks I (⟨_, q1, q2, rfl, rfl⟩) hP hD hS (Nat.zero_le _) (Nat.zero_le _) dDe_count_72)
    · refine lv_tableIn (off := 72) (tgt := 73) hx hb dDe_count_1 (by decide +kernel) (by decide +kernel) (by decide +kernel) (by decide) ?_
      refine lv_aload_n hx hb dDe_count_73 rfl (lv_at hl 0 rfl) ?_
      refine va_get (D := (dC, dI)) (ci := 7) (v := .ref (b 12)) (C := RDe) (T := TDe) (N := 10) hx hb hts inDe hown hK hP 0 rfl rfl 3 (by decide) (hts _ tw_195) (fun _ h9 => h9) rfl dDe_count_74 ?_
      refine va_getN (D := (dC, dI)) (ci := 2) (v := .int (I 0 6)) (C := RBo) (T := TBo) (N := 3) hx hb hts inBo hown hK hP 12 rfl rfl 2 (by decide) (va_Nw.use rfl (hE.1 _ en_135)) (fun _ h9 => h9) rfl dDe_count_77 ?_
      exact ex_ret (ct_ri hx hb hr hlocks I (⟨_, q1, q2, rfl, rfl⟩) hP hD hS (Nat.zero_le _) (Nat.zero_le _) dDe_count_80)
    · refine lv_tableIn (off := 80) (tgt := 81) hx hb dDe_count_1 (by decide +kernel) (by decide +kernel) (by decide +kernel) (by decide) ?_
      refine lv_aload_n hx hb dDe_count_81 rfl (lv_at hl 0 rfl) ?_
      refine va_get (D := (dC, dI)) (ci := 7) (v := .ref (b 15)) (C := RDe) (T := TDe) (N := 10) hx hb hts inDe hown hK hP 0 rfl rfl 4 (by decide) (hts _ tw_196) (fun _ h9 => h9) rfl dDe_count_82 ?_
      refine va_getN (D := (dC, dI)) (ci := 6) (v := .int (I 0 7)) (C := RLi) (T := TLi) (N := 2) hx hb hts inLi hown hK hP 15 rfl rfl 1 (by decide) (va_Nw.use rfl (hE.1 _ en_184)) (fun _ h9 => h9) rfl dDe_count_85 ?_
      exact ex_ret (ct_ri hx hb hr hlocks I (⟨_, q1, q2, rfl, rfl⟩) hP hD hS (Nat.zero_le _) (Nat.zero_le _) dDe_count_88)
    · refine lv_tableIn (off := 88) (tgt := 89) hx hb dDe_count_1 (by decide +kernel) (by decide +kernel) (by decide +kernel) (by decide) ?_
      refine lv_aload_n hx hb dDe_count_89 rfl (lv_at hl 0 rfl) ?_
      refine ct_i (va_runV (As := []) (rest := []) ⟨hx, hb, hml, hown, hts⟩ (kDe_loudFrames0 l dC dI k b P I D _ n hn h4 jd hjd h5) (cwV 0 hts (gw_V tw_632 tw_634 sl_De_loudFrames tw_1 tw_635) rfl rfl rfl (by decide +kernel) ⟨Nat.le_of_ble_eq_true rfl, Nat.le_of_ble_eq_true rfl⟩) ⟨ct_blind (ev := ev_N) ev_N.blind, va_recv hK hP (ci := 7) (q0 := 0) rfl rfl, ct_now (ev := ev_N) (fun U _ hW => hE.1.warm hW) hP hK hD⟩ rfl rfl hl.1 rfl (lv_room (Nat.le_of_ble_eq_true rfl)) dDe_count_90 ⟨Nat.le_of_ble_eq_true rfl, Nat.le_of_ble_eq_true rfl⟩) hD hS hA (fun r2 u2 H locs hw2 hP hD hS => ?_)
      obtain ⟨h9, e9⟩ := hw2
      subst h9
      subst e9
      exact ex_ret (ct_ri hx hb hr hlocks (ui I 0 5 (nI 0)) (⟨_, q1, q2, rfl, rfl⟩) hP hD hS (Nat.zero_le _) (Nat.zero_le _) dDe_count_93)
  · refine lv_tableOut (tgt := 94) hx hb dDe_count_1 (tb_out hq9) (by decide) ?_
    exact th_throw hx hb hln (cls := th_IA) (text := "0 to 6 can be counted") hown hP0 hAe hts hE.2 (by decide +kernel) t3_67_231 th_IA_w (hl.1.trans hml.symm) htab dDe_count_94 dDe_count_97 dDe_count_98 dDe_count_100 dDe_count_103 hlocks I (⟨rfl, rfl, hq9⟩) hP hD hS (Nat.le_of_ble_eq_true rfl) (Nat.le_of_ble_eq_true rfl) (Nat.le_of_ble_eq_true rfl) (Nat.le_of_ble_eq_true rfl) (Nat.le_refl _) (Nat.le_refl _)
