-- a FILE without fault
def fi_ok (oc : Nat → Nat) (n : Nat) : Prop := 44 ≤ n ∧ fi_sp oc 0 82 73 70 70 ∧ nu oc 4 4 = n - 8 ∧ fi_sp oc 8 87 65 86 69 ∧ fi_sp oc 12 102 109 116 32 ∧ nu oc 16 4 = 16 ∧ nu oc 20 2 = 1 ∧ (1 ≤ nu oc 22 2 ∧ nu oc 22 2 ≤ 2) ∧ (1000 ≤ nu oc 24 4 ∧ nu oc 24 4 ≤ 48000) ∧ nu oc 28 4 = nu oc 24 4 * nu oc 32 2 ∧ nu oc 32 2 = nu oc 22 2 * nu oc 34 2 / 8 ∧ (nu oc 34 2 = 8 ∨ nu oc 34 2 = 16) ∧ fi_sp oc 36 100 97 116 97 ∧ nu oc 40 4 = n - 44 ∧ nu oc 40 4 % nu oc 32 2 = 0
theorem lne0 {n : Nat} (h0 : 0 < n) (h : n < 2 ^ 63) : lN n ≠ 0 := by
  intro z
  have h1 := (pk_lEQ (a := n) (b := 0) (by omega) (by decide)).mp z
  omega
theorem fi_in {a x c : Nat} (h : lN a ≤ lN x ∧ lN x ≤ lN c) (ha : a < 2 ^ 31 := by omega) (hx : x < 2 ^ 63 := by omega) (hc : c < 2 ^ 31 := by omega) : a ≤ x ∧ x ≤ c := ⟨(pk_lLE (by omega) hx).mp h.1, (pk_lLE hx (by omega)).mp h.2⟩
theorem fi_ni {a x c : Nat} (hx : x < 2 ^ 63) (h : a ≤ x ∧ x ≤ c) (ha : a < 2 ^ 31 := by omega) (hc : c < 2 ^ 31 := by omega) : lN a ≤ lN x ∧ lN x ≤ lN c := ⟨(pk_lLE (by omega) hx).mpr h.1, (pk_lLE hx (by omega)).mpr h.2⟩
theorem fi_each {ch bt ea : Nat} (h1 : 1 ≤ ch ∧ ch ≤ 2) (h2 : ea = ch * bt / 8) (h3 : bt = 8 ∨ bt = 16) : 0 < ea := by
  rcases h3 with rfl | rfl <;> omega
set_option maxHeartbeats 4000000 in
set_option maxRecDepth 100000 in
theorem kMo_wrong (l : Launch) (dC : Nat → ClassId) (dI : Nat → Nat → Nat) (k : Nat → ClassId) (b : Nat → Nat) (I : Nat → Nat → Int32) (D : Nat → Nat → UInt64) (sz : Nat) (n : Nat) (oc : Nat → Nat) (hn : n ≤ 400) (h1 : I 0 1 = nI n) (ho : ∀ j, j < 400 → I 1 j = nI (oc j) ∧ oc j < 256) : Met l yMo_wrong wMo_wrong ({ frames := 1, cells := 0, slots := 0, locals := 25 }) (va_Pc [.ref (b 0)] (ct_pre (dC, dI) (mo_ty k) (fun _ => True) (wm k b I D) sz)) (va_Qi (fun r (_ : Unit) => (fi_ok oc n ∧ r = -1) ∨ ((¬ fi_ok oc n) ∧ ∃ j, j ≤ 44 ∧ r = nI j)) (fun u t => ct_at (dC, dI) (va_A (wm k b I D) sz) ((fun _ => wm k b I D) u) t) (va_A (wm k b I D) sz)) 0 0 (va_A (wm k b I D) sz) := by
  refine Met.ofW (cc := cMo_wrong) (maxL := 9) (ret := (some .int)) (by decide) rfl ?_
  intro p e s m args below meth c s₁ B hml hv
  obtain ⟨rfl, hsz, hP, hK, hD0, hE⟩ := hv
  have hx := B.exec
  have hb := B.bytes
  have hr := B.returns
  have hts : ∀ w ∈ W0, w.before [.ref (b 0)].toArray s = true := fun w h => atoms_spec (ws := wMo_wrong) B.pre w (List.mem_cons_of_mem _ h)
  have hown : s.vm.findClass RMo = some m.cls := findClass_of_methodNamed B.named
  have hlocks := B.notSynchronized
  subst hsz
  have hD := hD0.self (sz := s.heap.size)
  generalize hAe : va_A (wm k b I D) s.heap.size = A at hD ⊢
  have hA : ∀ q : Nat, s.heap.size ≤ q → A q := fun q h => by rw [← hAe]; exact Or.inr h
  have hS : va_S A s.heap s.heap [] := va_S.rf
  have hl := lv_entry ([.ref (b 0)]) (n := 9) (Nat.le_of_ble_eq_true rfl)
  rw [lg_entry_eq]
  generalize (lg_sl ([.ref (b 0)]) ++ List.replicate (9 - (lg_sl ([.ref (b 0)])).length) Slot.unset).toArray = ls at hl ⊢
  have hl : lv_has ls 9 [(0, .ref (b 0))] := hl
  refine lv_aload_n hx hb dMo_wrong_0 rfl (lv_at hl 0 rfl) ?_
  refine va_get (D := (dC, dI)) (ci := 8) (v := .int (I 0 1)) (C := RMo) (T := TMo) (N := 27) hx hb hts inMo hown hK hP 0 rfl rfl 1 (by decide) (hts _ tw_648) (fun _ h9 => h9) rfl dMo_wrong_1 ?_
  refine rw_i (y := nI n) h1 ?_
  refine lv_bipush (v := nI 44) hx hb dMo_wrong_4 (by decide +kernel) ?_
  refine lv_icmp_ge (tgt := 14) hx hb dMo_wrong_6 (by decide) (fun c6 => ?_) (fun c6 => ?_)
  · have c6 : 44 ≤ n := (nI_leI (a := 44) (b := n) (by omega) (by omega)).mp (show nI 44 ≤ nI n from c6)
    refine lv_aload_n hx hb dMo_wrong_14 rfl (lv_at hl 0 rfl) ?_
    refine lv_bipush (v := nI 22) hx hb dMo_wrong_15 (by decide +kernel) ?_
    refine lv_iconst (v := nI 2) hx hb dMo_wrong_17 (by decide +kernel) ?_
    refine ct_l (va_runV (As := [.int (nI 22), .int (nI 2)]) (rest := []) ⟨hx, hb, hml, hown, hts⟩ (kMo_number l dC dI k b I D _ 22 2 oc (by decide) (by decide) (by decide) ho) (cwV 2 hts (gw_V tw_750 tw_752 sl_Mo_number tw_9 tw_753) rfl rfl rfl (by decide +kernel) ⟨Nat.le_of_ble_eq_true rfl, Nat.le_of_ble_eq_true rfl⟩) ⟨ct_blind (ev := fun _ => True) (fun _ _ _ _ h => h), va_recv hK hP (ci := 8) (q0 := 0) rfl rfl, ct_now (ev := fun _ => True) (fun _ _ _ => trivial) hP hK hD⟩ rfl rfl hl.1 rfl (lv_room (Nat.le_of_ble_eq_true rfl)) dMo_wrong_18 ⟨Nat.le_of_ble_eq_true rfl, Nat.le_of_ble_eq_true rfl⟩) hD hS hA (fun r1 u1 H locs hw1 hP hD hS => ?_)
    subst hw1
    have b18 := nu_lt oc 2 22 (fun j hj => (ho j (by omega)).2)
    refine lv_lstore_n (lv' := [(1, .long (lN (nu oc 22 2))), (0, .ref (b 0))]) hx hb dMo_wrong_21 rfl hl (by decide) rfl (fun ls hl => ?_)
    refine lv_aload_n hx hb dMo_wrong_22 rfl (lv_at hl 1 rfl) ?_
    refine lv_bipush (v := nI 32) hx hb dMo_wrong_23 (by decide +kernel) ?_
    refine lv_iconst (v := nI 2) hx hb dMo_wrong_25 (by decide +kernel) ?_
    refine ct_l (va_runV (As := [.int (nI 32), .int (nI 2)]) (rest := []) ⟨hx, hb, hml, hown, hts⟩ (kMo_number l dC dI k b I D _ 32 2 oc (by decide) (by decide) (by decide) ho) (cwV 2 hts (gw_V tw_750 tw_752 sl_Mo_number tw_9 tw_753) rfl rfl rfl (by decide +kernel) ⟨Nat.le_of_ble_eq_true rfl, Nat.le_of_ble_eq_true rfl⟩) ⟨ct_blind (ev := fun _ => True) (fun _ _ _ _ h => h), va_recv hK hP (ci := 8) (q0 := 0) rfl rfl, ct_now (ev := fun _ => True) (fun _ _ _ => trivial) hP hK hD⟩ rfl rfl hl.1 rfl (lv_room (Nat.le_of_ble_eq_true rfl)) dMo_wrong_26 ⟨Nat.le_of_ble_eq_true rfl, Nat.le_of_ble_eq_true rfl⟩) hD hS hA (fun r2 u2 H locs hw2 hP hD hS => ?_)
    subst hw2
    have b26 := nu_lt oc 2 32 (fun j hj => (ho j (by omega)).2)
    refine lv_lstore_n (lv' := [(3, .long (lN (nu oc 32 2))), (1, .long (lN (nu oc 22 2))), (0, .ref (b 0))]) hx hb dMo_wrong_29 rfl hl (by decide) rfl (fun ls hl => ?_)
    refine lv_aload_n hx hb dMo_wrong_30 rfl (lv_at hl 2 rfl) ?_
    refine lv_bipush (v := nI 34) hx hb dMo_wrong_31 (by decide +kernel) ?_
    refine lv_iconst (v := nI 2) hx hb dMo_wrong_33 (by decide +kernel) ?_
    refine ct_l (va_runV (As := [.int (nI 34), .int (nI 2)]) (rest := []) ⟨hx, hb, hml, hown, hts⟩ (kMo_number l dC dI k b I D _ 34 2 oc (by decide) (by decide) (by decide) ho) (cwV 2 hts (gw_V tw_750 tw_752 sl_Mo_number tw_9 tw_753) rfl rfl rfl (by decide +kernel) ⟨Nat.le_of_ble_eq_true rfl, Nat.le_of_ble_eq_true rfl⟩) ⟨ct_blind (ev := fun _ => True) (fun _ _ _ _ h => h), va_recv hK hP (ci := 8) (q0 := 0) rfl rfl, ct_now (ev := fun _ => True) (fun _ _ _ => trivial) hP hK hD⟩ rfl rfl hl.1 rfl (lv_room (Nat.le_of_ble_eq_true rfl)) dMo_wrong_34 ⟨Nat.le_of_ble_eq_true rfl, Nat.le_of_ble_eq_true rfl⟩) hD hS hA (fun r3 u3 H locs hw3 hP hD hS => ?_)
    subst hw3
    have b34 := nu_lt oc 2 34 (fun j hj => (ho j (by omega)).2)
    refine lv_lstore (lv' := [(5, .long (lN (nu oc 34 2))), (3, .long (lN (nu oc 32 2))), (1, .long (lN (nu oc 22 2))), (0, .ref (b 0))]) hx hb dMo_wrong_37 hl (by decide) rfl (fun ls hl => ?_)
    refine lv_aload_n hx hb dMo_wrong_39 rfl (lv_at hl 3 rfl) ?_
    refine lv_bipush (v := nI 40) hx hb dMo_wrong_40 (by decide +kernel) ?_
    refine lv_iconst (v := nI 4) hx hb dMo_wrong_42 (by decide +kernel) ?_
    refine ct_l (va_runV (As := [.int (nI 40), .int (nI 4)]) (rest := []) ⟨hx, hb, hml, hown, hts⟩ (kMo_number l dC dI k b I D _ 40 4 oc (by decide) (by decide) (by decide) ho) (cwV 2 hts (gw_V tw_750 tw_752 sl_Mo_number tw_9 tw_753) rfl rfl rfl (by decide +kernel) ⟨Nat.le_of_ble_eq_true rfl, Nat.le_of_ble_eq_true rfl⟩) ⟨ct_blind (ev := fun _ => True) (fun _ _ _ _ h => h), va_recv hK hP (ci := 8) (q0 := 0) rfl rfl, ct_now (ev := fun _ => True) (fun _ _ _ => trivial) hP hK hD⟩ rfl rfl hl.1 rfl (lv_room (Nat.le_of_ble_eq_true rfl)) dMo_wrong_43 ⟨Nat.le_of_ble_eq_true rfl, Nat.le_of_ble_eq_true rfl⟩) hD hS hA (fun r4 u4 H locs hw4 hP hD hS => ?_)
    subst hw4
    have b43 := nu_lt oc 4 40 (fun j hj => (ho j (by omega)).2)
    refine lv_lstore (lv' := [(7, .long (lN (nu oc 40 4))), (5, .long (lN (nu oc 34 2))), (3, .long (lN (nu oc 32 2))), (1, .long (lN (nu oc 22 2))), (0, .ref (b 0))]) hx hb dMo_wrong_46 hl (by decide) rfl (fun ls hl => ?_)
    refine lv_aload_n hx hb dMo_wrong_48 rfl (lv_at hl 4 rfl) ?_
    refine lv_iconst (v := nI 0) hx hb dMo_wrong_49 (by decide +kernel) ?_
    refine lv_bipush (v := nI 82) hx hb dMo_wrong_50 (by decide +kernel) ?_
    refine lv_bipush (v := nI 73) hx hb dMo_wrong_52 (by decide +kernel) ?_
    refine lv_bipush (v := nI 70) hx hb dMo_wrong_54 (by decide +kernel) ?_
    refine lv_bipush (v := nI 70) hx hb dMo_wrong_56 (by decide +kernel) ?_
    refine ct_i (va_runV (As := [.int (nI 0), .int (nI 82), .int (nI 73), .int (nI 70), .int (nI 70)]) (rest := []) ⟨hx, hb, hml, hown, hts⟩ (kMo_spells l dC dI k b I D _ 0 82 73 70 70 oc (by decide) ho (by decide) (by decide) (by decide) (by decide)) (cwV 5 hts (gw_V tw_754 tw_756 sl_Mo_spells tw_9 tw_757) rfl rfl rfl (by decide +kernel) ⟨Nat.le_of_ble_eq_true rfl, Nat.le_of_ble_eq_true rfl⟩) ⟨ct_blind (ev := fun _ => True) (fun _ _ _ _ h => h), va_recv hK hP (ci := 8) (q0 := 0) rfl rfl, ct_now (ev := fun _ => True) (fun _ _ _ => trivial) hP hK hD⟩ rfl rfl hl.1 rfl (lv_room (Nat.le_of_ble_eq_true rfl)) dMo_wrong_58 ⟨Nat.le_of_ble_eq_true rfl, Nat.le_of_ble_eq_true rfl⟩) hD hS hA (fun r5 u5 H locs hw5 hP hD hS => ?_)
    by_cases g58 : fi_sp oc 0 82 73 70 70
    · rw [if_pos g58] at hw5
      subst hw5
      refine rw_i (y := nI 1) rfl ?_
      refine lv_if_ne (tgt := 66) hx hb dMo_wrong_61 (by decide) (fun c61 => ?_) (fun c61 => ?_)
      · have c61 : ¬ 1 = 0 := fun q9 => c61 (show nI 1 = nI 0 from (nI_eq (a := 1) (b := 0) (by omega) (by omega)).mpr q9)
        refine lv_aload_n hx hb dMo_wrong_66 rfl (lv_at hl 4 rfl) ?_
        refine lv_iconst (v := nI 4) hx hb dMo_wrong_67 (by decide +kernel) ?_
        refine lv_iconst (v := nI 4) hx hb dMo_wrong_68 (by decide +kernel) ?_
        refine ct_l (va_runV (As := [.int (nI 4), .int (nI 4)]) (rest := []) ⟨hx, hb, hml, hown, hts⟩ (kMo_number l dC dI k b I D _ 4 4 oc (by decide) (by decide) (by decide) ho) (cwV 2 hts (gw_V tw_750 tw_752 sl_Mo_number tw_9 tw_753) rfl rfl rfl (by decide +kernel) ⟨Nat.le_of_ble_eq_true rfl, Nat.le_of_ble_eq_true rfl⟩) ⟨ct_blind (ev := fun _ => True) (fun _ _ _ _ h => h), va_recv hK hP (ci := 8) (q0 := 0) rfl rfl, ct_now (ev := fun _ => True) (fun _ _ _ => trivial) hP hK hD⟩ rfl rfl hl.1 rfl (lv_room (Nat.le_of_ble_eq_true rfl)) dMo_wrong_69 ⟨Nat.le_of_ble_eq_true rfl, Nat.le_of_ble_eq_true rfl⟩) hD hS hA (fun r6 u6 H locs hw6 hP hD hS => ?_)
        subst hw6
        have b69 := nu_lt oc 4 4 (fun j hj => (ho j (by omega)).2)
        refine lv_aload_n hx hb dMo_wrong_72 rfl (lv_at hl 4 rfl) ?_
        refine va_get (D := (dC, dI)) (ci := 8) (v := .int (I 0 1)) (C := RMo) (T := TMo) (N := 27) hx hb hts inMo hown hK hP 0 rfl rfl 1 (by decide) (hts _ tw_648) (fun _ h9 => h9) rfl dMo_wrong_73 ?_
        refine rw_i (y := nI n) h1 ?_
        refine lv_bipush (v := nI 8) hx hb dMo_wrong_76 (by decide +kernel) ?_
        refine lv_isub hx hb dMo_wrong_78 ?_
        refine rw_i (y := nI (n - 8)) (pk_sub (by omega)) ?_
        refine lv_i2l (v := lN (n - 8)) hx hb dMo_wrong_79 (nI_l (by omega)) ?_
        refine W.lcmp hx hb dMo_wrong_80 ?_
        refine lv_if_eq (tgt := 86) hx hb dMo_wrong_81 (by decide) (fun c81 => ?_) (fun c81 => ?_)
        · have c81 : (nu oc 4 4) = (n - 8) := (pk_lEQ (a := (nu oc 4 4)) (b := (n - 8)) (by omega) (by omega)).mp ((lg_cmp_eq _ _).mp c81)
          refine lv_aload_n hx hb dMo_wrong_86 rfl (lv_at hl 4 rfl) ?_
          refine lv_bipush (v := nI 8) hx hb dMo_wrong_87 (by decide +kernel) ?_
          refine lv_bipush (v := nI 87) hx hb dMo_wrong_89 (by decide +kernel) ?_
          refine lv_bipush (v := nI 65) hx hb dMo_wrong_91 (by decide +kernel) ?_
          refine lv_bipush (v := nI 86) hx hb dMo_wrong_93 (by decide +kernel) ?_
          refine lv_bipush (v := nI 69) hx hb dMo_wrong_95 (by decide +kernel) ?_
          refine ct_i (va_runV (As := [.int (nI 8), .int (nI 87), .int (nI 65), .int (nI 86), .int (nI 69)]) (rest := []) ⟨hx, hb, hml, hown, hts⟩ (kMo_spells l dC dI k b I D _ 8 87 65 86 69 oc (by decide) ho (by decide) (by decide) (by decide) (by decide)) (cwV 5 hts (gw_V tw_754 tw_756 sl_Mo_spells tw_9 tw_757) rfl rfl rfl (by decide +kernel) ⟨Nat.le_of_ble_eq_true rfl, Nat.le_of_ble_eq_true rfl⟩) ⟨ct_blind (ev := fun _ => True) (fun _ _ _ _ h => h), va_recv hK hP (ci := 8) (q0 := 0) rfl rfl, ct_now (ev := fun _ => True) (fun _ _ _ => trivial) hP hK hD⟩ rfl rfl hl.1 rfl (lv_room (Nat.le_of_ble_eq_true rfl)) dMo_wrong_97 ⟨Nat.le_of_ble_eq_true rfl, Nat.le_of_ble_eq_true rfl⟩) hD hS hA (fun r7 u7 H locs hw7 hP hD hS => ?_)
          by_cases g97 : fi_sp oc 8 87 65 86 69
          · rw [if_pos g97] at hw7
            subst hw7
            refine rw_i (y := nI 1) rfl ?_
            refine lv_if_ne (tgt := 106) hx hb dMo_wrong_100 (by decide) (fun c100 => ?_) (fun c100 => ?_)
            · have c100 : ¬ 1 = 0 := fun q9 => c100 (show nI 1 = nI 0 from (nI_eq (a := 1) (b := 0) (by omega) (by omega)).mpr q9)
              refine lv_aload_n hx hb dMo_wrong_106 rfl (lv_at hl 4 rfl) ?_
              refine lv_bipush (v := nI 12) hx hb dMo_wrong_107 (by decide +kernel) ?_
              refine lv_bipush (v := nI 102) hx hb dMo_wrong_109 (by decide +kernel) ?_
              refine lv_bipush (v := nI 109) hx hb dMo_wrong_111 (by decide +kernel) ?_
              refine lv_bipush (v := nI 116) hx hb dMo_wrong_113 (by decide +kernel) ?_
              refine lv_bipush (v := nI 32) hx hb dMo_wrong_115 (by decide +kernel) ?_
              refine ct_i (va_runV (As := [.int (nI 12), .int (nI 102), .int (nI 109), .int (nI 116), .int (nI 32)]) (rest := []) ⟨hx, hb, hml, hown, hts⟩ (kMo_spells l dC dI k b I D _ 12 102 109 116 32 oc (by decide) ho (by decide) (by decide) (by decide) (by decide)) (cwV 5 hts (gw_V tw_754 tw_756 sl_Mo_spells tw_9 tw_757) rfl rfl rfl (by decide +kernel) ⟨Nat.le_of_ble_eq_true rfl, Nat.le_of_ble_eq_true rfl⟩) ⟨ct_blind (ev := fun _ => True) (fun _ _ _ _ h => h), va_recv hK hP (ci := 8) (q0 := 0) rfl rfl, ct_now (ev := fun _ => True) (fun _ _ _ => trivial) hP hK hD⟩ rfl rfl hl.1 rfl (lv_room (Nat.le_of_ble_eq_true rfl)) dMo_wrong_117 ⟨Nat.le_of_ble_eq_true rfl, Nat.le_of_ble_eq_true rfl⟩) hD hS hA (fun r8 u8 H locs hw8 hP hD hS => ?_)
              by_cases g117 : fi_sp oc 12 102 109 116 32
              · rw [if_pos g117] at hw8
                subst hw8
                refine rw_i (y := nI 1) rfl ?_
                refine lv_if_ne (tgt := 126) hx hb dMo_wrong_120 (by decide) (fun c120 => ?_) (fun c120 => ?_)
                · have c120 : ¬ 1 = 0 := fun q9 => c120 (show nI 1 = nI 0 from (nI_eq (a := 1) (b := 0) (by omega) (by omega)).mpr q9)
                  refine lv_aload_n hx hb dMo_wrong_126 rfl (lv_at hl 4 rfl) ?_
                  refine lv_bipush (v := nI 16) hx hb dMo_wrong_127 (by decide +kernel) ?_
                  refine lv_iconst (v := nI 4) hx hb dMo_wrong_129 (by decide +kernel) ?_
                  refine ct_l (va_runV (As := [.int (nI 16), .int (nI 4)]) (rest := []) ⟨hx, hb, hml, hown, hts⟩ (kMo_number l dC dI k b I D _ 16 4 oc (by decide) (by decide) (by decide) ho) (cwV 2 hts (gw_V tw_750 tw_752 sl_Mo_number tw_9 tw_753) rfl rfl rfl (by decide +kernel) ⟨Nat.le_of_ble_eq_true rfl, Nat.le_of_ble_eq_true rfl⟩) ⟨ct_blind (ev := fun _ => True) (fun _ _ _ _ h => h), va_recv hK hP (ci := 8) (q0 := 0) rfl rfl, ct_now (ev := fun _ => True) (fun _ _ _ => trivial) hP hK hD⟩ rfl rfl hl.1 rfl (lv_room (Nat.le_of_ble_eq_true rfl)) dMo_wrong_130 ⟨Nat.le_of_ble_eq_true rfl, Nat.le_of_ble_eq_true rfl⟩) hD hS hA (fun r9 u9 H locs hw9 hP hD hS => ?_)
                  subst hw9
                  have b130 := nu_lt oc 4 16 (fun j hj => (ho j (by omega)).2)
                  refine lv_ldc2 (v := 16) hx hb hown (hts _ tw_758) dMo_wrong_133 ?_
                  refine rw_l (y := lN 16) (by decide +kernel) ?_
                  refine W.lcmp hx hb dMo_wrong_136 ?_
                  refine lv_if_eq (tgt := 143) hx hb dMo_wrong_137 (by decide) (fun c137 => ?_) (fun c137 => ?_)
                  · have c137 : (nu oc 16 4) = 16 := (pk_lEQ (a := (nu oc 16 4)) (b := 16) (by omega) (by omega)).mp ((lg_cmp_eq _ _).mp c137)
                    refine lv_aload_n hx hb dMo_wrong_143 rfl (lv_at hl 4 rfl) ?_
                    refine lv_bipush (v := nI 20) hx hb dMo_wrong_144 (by decide +kernel) ?_
                    refine lv_iconst (v := nI 2) hx hb dMo_wrong_146 (by decide +kernel) ?_
                    refine ct_l (va_runV (As := [.int (nI 20), .int (nI 2)]) (rest := []) ⟨hx, hb, hml, hown, hts⟩ (kMo_number l dC dI k b I D _ 20 2 oc (by decide) (by decide) (by decide) ho) (cwV 2 hts (gw_V tw_750 tw_752 sl_Mo_number tw_9 tw_753) rfl rfl rfl (by decide +kernel) ⟨Nat.le_of_ble_eq_true rfl, Nat.le_of_ble_eq_true rfl⟩) ⟨ct_blind (ev := fun _ => True) (fun _ _ _ _ h => h), va_recv hK hP (ci := 8) (q0 := 0) rfl rfl, ct_now (ev := fun _ => True) (fun _ _ _ => trivial) hP hK hD⟩ rfl rfl hl.1 rfl (lv_room (Nat.le_of_ble_eq_true rfl)) dMo_wrong_147 ⟨Nat.le_of_ble_eq_true rfl, Nat.le_of_ble_eq_true rfl⟩) hD hS hA (fun r10 u10 H locs hw10 hP hD hS => ?_)
                    subst hw10
                    have b147 := nu_lt oc 2 20 (fun j hj => (ho j (by omega)).2)
                    refine lv_lconst (v := lN 1) hx hb dMo_wrong_150 (by decide +kernel) ?_
                    refine W.lcmp hx hb dMo_wrong_151 ?_
                    refine lv_if_eq (tgt := 158) hx hb dMo_wrong_152 (by decide) (fun c152 => ?_) (fun c152 => ?_)
                    · have c152 : (nu oc 20 2) = 1 := (pk_lEQ (a := (nu oc 20 2)) (b := 1) (by omega) (by omega)).mp ((lg_cmp_eq _ _).mp c152)
                      refine lv_lload_n hx hb dMo_wrong_158 rfl (lv_at hl 3 rfl) ?_
                      refine lv_lconst (v := lN 1) hx hb dMo_wrong_159 (by decide +kernel) ?_
                      refine lv_ldc2 (v := 2) hx hb hown (hts _ tw_759) dMo_wrong_160 ?_
                      refine rw_l (y := lN 2) (by decide +kernel) ?_
                      refine ct_i (va_runS (As := [.long (lN (nu oc 22 2)), .long (lN 1), .long (lN 2)]) (rest := []) ⟨hx, hb, hml, hown, hts⟩ (kMo_in l dC dI k b I D _ (lN (nu oc 22 2)) (lN 1) (lN 2)) (va_cwS 3 hts (gw_S tw_734 tw_735 tw_9 tw_736) rfl rfl rfl (by decide +kernel) ⟨Nat.le_of_ble_eq_true rfl, Nat.le_of_ble_eq_true rfl⟩) ⟨ct_blind (ev := fun _ => True) (fun _ _ _ _ h => h), ct_now (ev := fun _ => True) (fun _ _ _ => trivial) hP hK hD⟩ rfl rfl hl.1 rfl (lv_room (Nat.le_of_ble_eq_true rfl)) dMo_wrong_163 ⟨Nat.le_of_ble_eq_true rfl, Nat.le_of_ble_eq_true rfl⟩) hD hS hA (fun r11 u11 H locs hw11 hP hD hS => ?_)
                      by_cases g163 : lN 1 ≤ lN (nu oc 22 2) ∧ lN (nu oc 22 2) ≤ lN 2
                      · rw [if_pos g163] at hw11
                        subst hw11
                        refine rw_i (y := nI 1) rfl ?_
                        refine lv_if_ne (tgt := 172) hx hb dMo_wrong_166 (by decide) (fun c166 => ?_) (fun c166 => ?_)
                        · have c166 : ¬ 1 = 0 := fun q9 => c166 (show nI 1 = nI 0 from (nI_eq (a := 1) (b := 0) (by omega) (by omega)).mpr q9)
                          refine lv_aload_n hx hb dMo_wrong_172 rfl (lv_at hl 4 rfl) ?_
                          refine lv_bipush (v := nI 24) hx hb dMo_wrong_173 (by decide +kernel) ?_
                          refine lv_iconst (v := nI 4) hx hb dMo_wrong_175 (by decide +kernel) ?_
                          refine ct_l (va_runV (As := [.int (nI 24), .int (nI 4)]) (rest := []) ⟨hx, hb, hml, hown, hts⟩ (kMo_number l dC dI k b I D _ 24 4 oc (by decide) (by decide) (by decide) ho) (cwV 2 hts (gw_V tw_750 tw_752 sl_Mo_number tw_9 tw_753) rfl rfl rfl (by decide +kernel) ⟨Nat.le_of_ble_eq_true rfl, Nat.le_of_ble_eq_true rfl⟩) ⟨ct_blind (ev := fun _ => True) (fun _ _ _ _ h => h), va_recv hK hP (ci := 8) (q0 := 0) rfl rfl, ct_now (ev := fun _ => True) (fun _ _ _ => trivial) hP hK hD⟩ rfl rfl hl.1 rfl (lv_room (Nat.le_of_ble_eq_true rfl)) dMo_wrong_176 ⟨Nat.le_of_ble_eq_true rfl, Nat.le_of_ble_eq_true rfl⟩) hD hS hA (fun r12 u12 H locs hw12 hP hD hS => ?_)
                          subst hw12
                          have b176 := nu_lt oc 4 24 (fun j hj => (ho j (by omega)).2)
                          refine lv_ldc2 (v := 1000) hx hb hown (hts _ tw_760) dMo_wrong_179 ?_
                          refine rw_l (y := lN 1000) (by decide +kernel) ?_
                          refine lv_ldc2 (v := 48000) hx hb hown (hts _ tw_761) dMo_wrong_182 ?_
                          refine rw_l (y := lN 48000) (by decide +kernel) ?_
                          refine ct_i (va_runS (As := [.long (lN (nu oc 24 4)), .long (lN 1000), .long (lN 48000)]) (rest := []) ⟨hx, hb, hml, hown, hts⟩ (kMo_in l dC dI k b I D _ (lN (nu oc 24 4)) (lN 1000) (lN 48000)) (va_cwS 3 hts (gw_S tw_734 tw_735 tw_9 tw_736) rfl rfl rfl (by decide +kernel) ⟨Nat.le_of_ble_eq_true rfl, Nat.le_of_ble_eq_true rfl⟩) ⟨ct_blind (ev := fun _ => True) (fun _ _ _ _ h => h), ct_now (ev := fun _ => True) (fun _ _ _ => trivial) hP hK hD⟩ rfl rfl hl.1 rfl (lv_room (Nat.le_of_ble_eq_true rfl)) dMo_wrong_185 ⟨Nat.le_of_ble_eq_true rfl, Nat.le_of_ble_eq_true rfl⟩) hD hS hA (fun r13 u13 H locs hw13 hP hD hS => ?_)
                          by_cases g185 : lN 1000 ≤ lN (nu oc 24 4) ∧ lN (nu oc 24 4) ≤ lN 48000
                          · rw [if_pos g185] at hw13
                            subst hw13
                            refine rw_i (y := nI 1) rfl ?_
                            refine lv_if_ne (tgt := 194) hx hb dMo_wrong_188 (by decide) (fun c188 => ?_) (fun c188 => ?_)
                            · have c188 : ¬ 1 = 0 := fun q9 => c188 (show nI 1 = nI 0 from (nI_eq (a := 1) (b := 0) (by omega) (by omega)).mpr q9)
                              refine lv_aload_n hx hb dMo_wrong_194 rfl (lv_at hl 4 rfl) ?_
                              refine lv_bipush (v := nI 28) hx hb dMo_wrong_195 (by decide +kernel) ?_
                              refine lv_iconst (v := nI 4) hx hb dMo_wrong_197 (by decide +kernel) ?_
                              refine ct_l (va_runV (As := [.int (nI 28), .int (nI 4)]) (rest := []) ⟨hx, hb, hml, hown, hts⟩ (kMo_number l dC dI k b I D _ 28 4 oc (by decide) (by decide) (by decide) ho) (cwV 2 hts (gw_V tw_750 tw_752 sl_Mo_number tw_9 tw_753) rfl rfl rfl (by decide +kernel) ⟨Nat.le_of_ble_eq_true rfl, Nat.le_of_ble_eq_true rfl⟩) ⟨ct_blind (ev := fun _ => True) (fun _ _ _ _ h => h), va_recv hK hP (ci := 8) (q0 := 0) rfl rfl, ct_now (ev := fun _ => True) (fun _ _ _ => trivial) hP hK hD⟩ rfl rfl hl.1 rfl (lv_room (Nat.le_of_ble_eq_true rfl)) dMo_wrong_198 ⟨Nat.le_of_ble_eq_true rfl, Nat.le_of_ble_eq_true rfl⟩) hD hS hA (fun r14 u14 H locs hw14 hP hD hS => ?_)
                              subst hw14
                              have b198 := nu_lt oc 4 28 (fun j hj => (ho j (by omega)).2)
                              refine lv_aload_n hx hb dMo_wrong_201 rfl (lv_at hl 4 rfl) ?_
                              refine lv_bipush (v := nI 24) hx hb dMo_wrong_202 (by decide +kernel) ?_
                              refine lv_iconst (v := nI 4) hx hb dMo_wrong_204 (by decide +kernel) ?_
                              refine ct_l (va_runV (As := [.int (nI 24), .int (nI 4)]) (rest := [.long (lN (nu oc 28 4))]) ⟨hx, hb, hml, hown, hts⟩ (kMo_number l dC dI k b I D _ 24 4 oc (by decide) (by decide) (by decide) ho) (cwV 2 hts (gw_V tw_750 tw_752 sl_Mo_number tw_9 tw_753) rfl rfl rfl (by decide +kernel) ⟨Nat.le_of_ble_eq_true rfl, Nat.le_of_ble_eq_true rfl⟩) ⟨ct_blind (ev := fun _ => True) (fun _ _ _ _ h => h), va_recv hK hP (ci := 8) (q0 := 0) rfl rfl, ct_now (ev := fun _ => True) (fun _ _ _ => trivial) hP hK hD⟩ rfl rfl hl.1 rfl (lv_room (Nat.le_of_ble_eq_true rfl)) dMo_wrong_205 ⟨Nat.le_of_ble_eq_true rfl, Nat.le_of_ble_eq_true rfl⟩) hD hS hA (fun r15 u15 H locs hw15 hP hD hS => ?_)
                              subst hw15
                              have b205 := nu_lt oc 4 24 (fun j hj => (ho j (by omega)).2)
                              refine lv_lload_n hx hb dMo_wrong_208 rfl (lv_at hl 2 rfl) ?_
                              have hm1 : nu oc 24 4 * nu oc 32 2 ≤ 4294967296 * 65536 := Nat.mul_le_mul (by omega) (by omega)
                              refine lv_lmul hx hb dMo_wrong_209 ?_
                              refine rw_l (y := lN ((nu oc 24 4) * (nu oc 32 2))) (lN_mul _ _) ?_
                              refine W.lcmp hx hb dMo_wrong_210 ?_
                              refine lv_if_eq (tgt := 217) hx hb dMo_wrong_211 (by decide) (fun c211 => ?_) (fun c211 => ?_)
                              · have c211 : (nu oc 28 4) = ((nu oc 24 4) * (nu oc 32 2)) := (pk_lEQ (a := (nu oc 28 4)) (b := ((nu oc 24 4) * (nu oc 32 2))) (by omega) (by omega)).mp ((lg_cmp_eq _ _).mp c211)
                                refine lv_lload_n hx hb dMo_wrong_217 rfl (lv_at hl 2 rfl) ?_
                                refine lv_lload_n hx hb dMo_wrong_218 rfl (lv_at hl 3 rfl) ?_
                                refine lv_lload hx hb dMo_wrong_219 (lv_at hl 1 rfl) ?_
                                have hm2 : nu oc 22 2 * nu oc 34 2 ≤ 65536 * 65536 := Nat.mul_le_mul (by omega) (by omega)
                                refine lv_lmul hx hb dMo_wrong_221 ?_
                                refine rw_l (y := lN ((nu oc 22 2) * (nu oc 34 2))) (lN_mul _ _) ?_
                                refine lv_ldc2 (v := 8) hx hb hown (hts _ tw_733) dMo_wrong_222 ?_
                                refine rw_l (y := lN 8) (by decide +kernel) ?_
                                refine lv_ldiv hx hb dMo_wrong_225 (by decide +kernel) ?_
                                refine rw_l (y := lN (((nu oc 22 2) * (nu oc 34 2)) / 8)) (pk_lDiv (by omega) (by omega) (by omega)) ?_
                                refine W.lcmp hx hb dMo_wrong_226 ?_
                                refine lv_if_eq (tgt := 233) hx hb dMo_wrong_227 (by decide) (fun c227 => ?_) (fun c227 => ?_)
                                · have c227 : (nu oc 32 2) = (((nu oc 22 2) * (nu oc 34 2)) / 8) := (pk_lEQ (a := (nu oc 32 2)) (b := (((nu oc 22 2) * (nu oc 34 2)) / 8)) (by omega) (by omega)).mp ((lg_cmp_eq _ _).mp c227)
                                  refine lv_lload hx hb dMo_wrong_233 (lv_at hl 1 rfl) ?_
                                  refine lv_ldc2 (v := 8) hx hb hown (hts _ tw_733) dMo_wrong_235 ?_
                                  refine rw_l (y := lN 8) (by decide +kernel) ?_
                                  refine W.lcmp hx hb dMo_wrong_238 ?_
                                  refine lv_if_eq (tgt := 254) hx hb dMo_wrong_239 (by decide) (fun c239 => ?_) (fun c239 => ?_)
                                  · have c239 : (nu oc 34 2) = 8 := (pk_lEQ (a := (nu oc 34 2)) (b := 8) (by omega) (by omega)).mp ((lg_cmp_eq _ _).mp c239)
                                    refine lv_aload_n hx hb dMo_wrong_254 rfl (lv_at hl 4 rfl) ?_
                                    refine lv_bipush (v := nI 36) hx hb dMo_wrong_255 (by decide +kernel) ?_
                                    refine lv_bipush (v := nI 100) hx hb dMo_wrong_257 (by decide +kernel) ?_
                                    refine lv_bipush (v := nI 97) hx hb dMo_wrong_259 (by decide +kernel) ?_
                                    refine lv_bipush (v := nI 116) hx hb dMo_wrong_261 (by decide +kernel) ?_
                                    refine lv_bipush (v := nI 97) hx hb dMo_wrong_263 (by decide +kernel) ?_
                                    refine ct_i (va_runV (As := [.int (nI 36), .int (nI 100), .int (nI 97), .int (nI 116), .int (nI 97)]) (rest := []) ⟨hx, hb, hml, hown, hts⟩ (kMo_spells l dC dI k b I D _ 36 100 97 116 97 oc (by decide) ho (by decide) (by decide) (by decide) (by decide)) (cwV 5 hts (gw_V tw_754 tw_756 sl_Mo_spells tw_9 tw_757) rfl rfl rfl (by decide +kernel) ⟨Nat.le_of_ble_eq_true rfl, Nat.le_of_ble_eq_true rfl⟩) ⟨ct_blind (ev := fun _ => True) (fun _ _ _ _ h => h), va_recv hK hP (ci := 8) (q0 := 0) rfl rfl, ct_now (ev := fun _ => True) (fun _ _ _ => trivial) hP hK hD⟩ rfl rfl hl.1 rfl (lv_room (Nat.le_of_ble_eq_true rfl)) dMo_wrong_265 ⟨Nat.le_of_ble_eq_true rfl, Nat.le_of_ble_eq_true rfl⟩) hD hS hA (fun r16 u16 H locs hw16 hP hD hS => ?_)
                                    by_cases g265 : fi_sp oc 36 100 97 116 97
                                    · rw [if_pos g265] at hw16
                                      subst hw16
                                      refine rw_i (y := nI 1) rfl ?_
                                      refine lv_if_ne (tgt := 274) hx hb dMo_wrong_268 (by decide) (fun c268 => ?_) (fun c268 => ?_)
                                      · have c268 : ¬ 1 = 0 := fun q9 => c268 (show nI 1 = nI 0 from (nI_eq (a := 1) (b := 0) (by omega) (by omega)).mpr q9)
                                        refine lv_lload hx hb dMo_wrong_274 (lv_at hl 0 rfl) ?_
                                        refine lv_aload_n hx hb dMo_wrong_276 rfl (lv_at hl 4 rfl) ?_
                                        refine va_get (D := (dC, dI)) (ci := 8) (v := .int (I 0 1)) (C := RMo) (T := TMo) (N := 27) hx hb hts inMo hown hK hP 0 rfl rfl 1 (by decide) (hts _ tw_648) (fun _ h9 => h9) rfl dMo_wrong_277 ?_
                                        refine rw_i (y := nI n) h1 ?_
                                        refine lv_bipush (v := nI 44) hx hb dMo_wrong_280 (by decide +kernel) ?_
                                        refine lv_isub hx hb dMo_wrong_282 ?_
                                        refine rw_i (y := nI (n - 44)) (pk_sub (by omega)) ?_
                                        refine lv_i2l (v := lN (n - 44)) hx hb dMo_wrong_283 (nI_l (by omega)) ?_
                                        refine W.lcmp hx hb dMo_wrong_284 ?_
                                        refine lv_if_ne (tgt := 297) hx hb dMo_wrong_285 (by decide) (fun c285 => ?_) (fun c285 => ?_)
                                        · have c285 : ¬ (nu oc 40 4) = (n - 44) := fun q9 => c285 ((lg_cmp_eq _ _).mpr ((pk_lEQ (a := (nu oc 40 4)) (b := (n - 44)) (by omega) (by omega)).mpr q9))
                                          refine lv_bipush (v := nI 40) hx hb dMo_wrong_297 (by decide +kernel) ?_
                                          refine lv_goto (tgt := 303) hx hb dMo_wrong_299 (by decide) ?_
                                          exact ct_ri hx hb hr hlocks () (Or.inr ⟨by first | (exact fun z => c285 z.2.2.2.2.2.2.2.2.2.2.2.2.2.1) | (exact fun z => c294 z.2.2.2.2.2.2.2.2.2.2.2.2.2.2), 40, by decide, rfl⟩) hP hD hS (Nat.le_refl _) (Nat.le_refl _) dMo_wrong_303
                                        · have c285 : (nu oc 40 4) = (n - 44) := (pk_lEQ (a := (nu oc 40 4)) (b := (n - 44)) (by omega) (by omega)).mp ((lg_cmp_eq _ _).mp c285)
                                          refine lv_lload hx hb dMo_wrong_288 (lv_at hl 0 rfl) ?_
                                          refine lv_lload_n hx hb dMo_wrong_290 rfl (lv_at hl 2 rfl) ?_
                                          have he1 := fi_each (fi_in g163) c227 (by first | exact Or.inl c239 | exact Or.inr c248)
                                          have hm3 : nu oc 40 4 % nu oc 32 2 < nu oc 32 2 := Nat.mod_lt _ he1
                                          refine lv_lrem hx hb dMo_wrong_291 (lne0 (fi_each (fi_in g163) c227 (by first | exact Or.inl c239 | exact Or.inr c248)) (by omega)) ?_
                                          refine rw_l (y := lN ((nu oc 40 4) % (nu oc 32 2))) (pk_lRem (by omega) (by omega) (by omega)) ?_
                                          refine lv_lconst (v := lN 0) hx hb dMo_wrong_292 (by decide +kernel) ?_
                                          refine W.lcmp hx hb dMo_wrong_293 ?_
                                          refine lv_if_eq (tgt := 302) hx hb dMo_wrong_294 (by decide) (fun c294 => ?_) (fun c294 => ?_)
                                          · have c294 : ((nu oc 40 4) % (nu oc 32 2)) = 0 := (pk_lEQ (a := ((nu oc 40 4) % (nu oc 32 2))) (b := 0) (by omega) (by omega)).mp ((lg_cmp_eq _ _).mp c294)
                                            refine lv_iconst (v := (-1)) hx hb dMo_wrong_302 (by decide +kernel) ?_
                                            exact ct_ri hx hb hr hlocks () (Or.inl ⟨⟨by omega, g58, c81, g97, g117, c137, c152, fi_in g163, fi_in g185, c211, c227, by first | exact Or.inl c239 | exact Or.inr c248, g265, c285, c294⟩, rfl⟩) hP hD hS (Nat.le_refl _) (Nat.le_refl _) dMo_wrong_303
                                          · have c294 : ¬ ((nu oc 40 4) % (nu oc 32 2)) = 0 := fun q9 => c294 ((lg_cmp_eq _ _).mpr ((pk_lEQ (a := ((nu oc 40 4) % (nu oc 32 2))) (b := 0) (by omega) (by omega)).mpr q9))
                                            refine lv_bipush (v := nI 40) hx hb dMo_wrong_297 (by decide +kernel) ?_
                                            refine lv_goto (tgt := 303) hx hb dMo_wrong_299 (by decide) ?_
                                            exact ct_ri hx hb hr hlocks () (Or.inr ⟨by first | (exact fun z => c285 z.2.2.2.2.2.2.2.2.2.2.2.2.2.1) | (exact fun z => c294 z.2.2.2.2.2.2.2.2.2.2.2.2.2.2), 40, by decide, rfl⟩) hP hD hS (Nat.le_refl _) (Nat.le_refl _) dMo_wrong_303
                                      · have c268 : 1 = 0 := (nI_eq (a := 1) (b := 0) (by omega) (by omega)).mp (show nI 1 = nI 0 from c268)
                                        exact absurd c268 (by decide)
                                    · rw [if_neg g265] at hw16
                                      subst hw16
                                      refine rw_i (y := nI 0) rfl ?_
                                      refine lv_if_ne (tgt := 274) hx hb dMo_wrong_268 (by decide) (fun c268 => ?_) (fun c268 => ?_)
                                      · have c268 : ¬ 0 = 0 := fun q9 => c268 (show nI 0 = nI 0 from (nI_eq (a := 0) (b := 0) (by omega) (by omega)).mpr q9)
                                        exact absurd (by decide) c268
                                      · have c268 : 0 = 0 := (nI_eq (a := 0) (b := 0) (by omega) (by omega)).mp (show nI 0 = nI 0 from c268)
                                        refine lv_bipush (v := nI 36) hx hb dMo_wrong_271 (by decide +kernel) ?_
                                        exact ct_ri hx hb hr hlocks () (Or.inr ⟨fun z => g265 z.2.2.2.2.2.2.2.2.2.2.2.2.1, 36, by decide, rfl⟩) hP hD hS (Nat.le_refl _) (Nat.le_refl _) dMo_wrong_273
                                  · have c239 : ¬ (nu oc 34 2) = 8 := fun q9 => c239 ((lg_cmp_eq _ _).mpr ((pk_lEQ (a := (nu oc 34 2)) (b := 8) (by omega) (by omega)).mpr q9))
                                    refine lv_lload hx hb dMo_wrong_242 (lv_at hl 1 rfl) ?_
                                    refine lv_ldc2 (v := 16) hx hb hown (hts _ tw_758) dMo_wrong_244 ?_
                                    refine rw_l (y := lN 16) (by decide +kernel) ?_
                                    refine W.lcmp hx hb dMo_wrong_247 ?_
                                    refine lv_if_eq (tgt := 254) hx hb dMo_wrong_248 (by decide) (fun c248 => ?_) (fun c248 => ?_)
                                    · have c248 : (nu oc 34 2) = 16 := (pk_lEQ (a := (nu oc 34 2)) (b := 16) (by omega) (by omega)).mp ((lg_cmp_eq _ _).mp c248)
                                      refine lv_aload_n hx hb dMo_wrong_254 rfl (lv_at hl 4 rfl) ?_
                                      refine lv_bipush (v := nI 36) hx hb dMo_wrong_255 (by decide +kernel) ?_
                                      refine lv_bipush (v := nI 100) hx hb dMo_wrong_257 (by decide +kernel) ?_
                                      refine lv_bipush (v := nI 97) hx hb dMo_wrong_259 (by decide +kernel) ?_
                                      refine lv_bipush (v := nI 116) hx hb dMo_wrong_261 (by decide +kernel) ?_
                                      refine lv_bipush (v := nI 97) hx hb dMo_wrong_263 (by decide +kernel) ?_
                                      refine ct_i (va_runV (As := [.int (nI 36), .int (nI 100), .int (nI 97), .int (nI 116), .int (nI 97)]) (rest := []) ⟨hx, hb, hml, hown, hts⟩ (kMo_spells l dC dI k b I D _ 36 100 97 116 97 oc (by decide) ho (by decide) (by decide) (by decide) (by decide)) (cwV 5 hts (gw_V tw_754 tw_756 sl_Mo_spells tw_9 tw_757) rfl rfl rfl (by decide +kernel) ⟨Nat.le_of_ble_eq_true rfl, Nat.le_of_ble_eq_true rfl⟩) ⟨ct_blind (ev := fun _ => True) (fun _ _ _ _ h => h), va_recv hK hP (ci := 8) (q0 := 0) rfl rfl, ct_now (ev := fun _ => True) (fun _ _ _ => trivial) hP hK hD⟩ rfl rfl hl.1 rfl (lv_room (Nat.le_of_ble_eq_true rfl)) dMo_wrong_265 ⟨Nat.le_of_ble_eq_true rfl, Nat.le_of_ble_eq_true rfl⟩) hD hS hA (fun r17 u17 H locs hw17 hP hD hS => ?_)
                                      by_cases g265 : fi_sp oc 36 100 97 116 97
                                      · rw [if_pos g265] at hw17
                                        subst hw17
                                        refine rw_i (y := nI 1) rfl ?_
                                        refine lv_if_ne (tgt := 274) hx hb dMo_wrong_268 (by decide) (fun c268 => ?_) (fun c268 => ?_)
                                        · have c268 : ¬ 1 = 0 := fun q9 => c268 (show nI 1 = nI 0 from (nI_eq (a := 1) (b := 0) (by omega) (by omega)).mpr q9)
                                          refine lv_lload hx hb dMo_wrong_274 (lv_at hl 0 rfl) ?_
                                          refine lv_aload_n hx hb dMo_wrong_276 rfl (lv_at hl 4 rfl) ?_
                                          refine va_get (D := (dC, dI)) (ci := 8) (v := .int (I 0 1)) (C := RMo) (T := TMo) (N := 27) hx hb hts inMo hown hK hP 0 rfl rfl 1 (by decide) (hts _ tw_648) (fun _ h9 => h9) rfl dMo_wrong_277 ?_
                                          refine rw_i (y := nI n) h1 ?_
                                          refine lv_bipush (v := nI 44) hx hb dMo_wrong_280 (by decide +kernel) ?_
                                          refine lv_isub hx hb dMo_wrong_282 ?_
                                          refine rw_i (y := nI (n - 44)) (pk_sub (by omega)) ?_
                                          refine lv_i2l (v := lN (n - 44)) hx hb dMo_wrong_283 (nI_l (by omega)) ?_
                                          refine W.lcmp hx hb dMo_wrong_284 ?_
                                          refine lv_if_ne (tgt := 297) hx hb dMo_wrong_285 (by decide) (fun c285 => ?_) (fun c285 => ?_)
                                          · have c285 : ¬ (nu oc 40 4) = (n - 44) := fun q9 => c285 ((lg_cmp_eq _ _).mpr ((pk_lEQ (a := (nu oc 40 4)) (b := (n - 44)) (by omega) (by omega)).mpr q9))
                                            refine lv_bipush (v := nI 40) hx hb dMo_wrong_297 (by decide +kernel) ?_
                                            refine lv_goto (tgt := 303) hx hb dMo_wrong_299 (by decide) ?_
                                            exact ct_ri hx hb hr hlocks () (Or.inr ⟨by first | (exact fun z => c285 z.2.2.2.2.2.2.2.2.2.2.2.2.2.1) | (exact fun z => c294 z.2.2.2.2.2.2.2.2.2.2.2.2.2.2), 40, by decide, rfl⟩) hP hD hS (Nat.le_refl _) (Nat.le_refl _) dMo_wrong_303
                                          · have c285 : (nu oc 40 4) = (n - 44) := (pk_lEQ (a := (nu oc 40 4)) (b := (n - 44)) (by omega) (by omega)).mp ((lg_cmp_eq _ _).mp c285)
                                            refine lv_lload hx hb dMo_wrong_288 (lv_at hl 0 rfl) ?_
                                            refine lv_lload_n hx hb dMo_wrong_290 rfl (lv_at hl 2 rfl) ?_
                                            have he1 := fi_each (fi_in g163) c227 (by first | exact Or.inl c239 | exact Or.inr c248)
                                            have hm3 : nu oc 40 4 % nu oc 32 2 < nu oc 32 2 := Nat.mod_lt _ he1
                                            refine lv_lrem hx hb dMo_wrong_291 (lne0 (fi_each (fi_in g163) c227 (by first | exact Or.inl c239 | exact Or.inr c248)) (by omega)) ?_
                                            refine rw_l (y := lN ((nu oc 40 4) % (nu oc 32 2))) (pk_lRem (by omega) (by omega) (by omega)) ?_
                                            refine lv_lconst (v := lN 0) hx hb dMo_wrong_292 (by decide +kernel) ?_
                                            refine W.lcmp hx hb dMo_wrong_293 ?_
                                            refine lv_if_eq (tgt := 302) hx hb dMo_wrong_294 (by decide) (fun c294 => ?_) (fun c294 => ?_)
                                            · have c294 : ((nu oc 40 4) % (nu oc 32 2)) = 0 := (pk_lEQ (a := ((nu oc 40 4) % (nu oc 32 2))) (b := 0) (by omega) (by omega)).mp ((lg_cmp_eq _ _).mp c294)
                                              refine lv_iconst (v := (-1)) hx hb dMo_wrong_302 (by decide +kernel) ?_
                                              exact ct_ri hx hb hr hlocks () (Or.inl ⟨⟨by omega, g58, c81, g97, g117, c137, c152, fi_in g163, fi_in g185, c211, c227, by first | exact Or.inl c239 | exact Or.inr c248, g265, c285, c294⟩, rfl⟩) hP hD hS (Nat.le_refl _) (Nat.le_refl _) dMo_wrong_303
                                            · have c294 : ¬ ((nu oc 40 4) % (nu oc 32 2)) = 0 := fun q9 => c294 ((lg_cmp_eq _ _).mpr ((pk_lEQ (a := ((nu oc 40 4) % (nu oc 32 2))) (b := 0) (by omega) (by omega)).mpr q9))
                                              refine lv_bipush (v := nI 40) hx hb dMo_wrong_297 (by decide +kernel) ?_
                                              refine lv_goto (tgt := 303) hx hb dMo_wrong_299 (by decide) ?_
                                              exact ct_ri hx hb hr hlocks () (Or.inr ⟨by first | (exact fun z => c285 z.2.2.2.2.2.2.2.2.2.2.2.2.2.1) | (exact fun z => c294 z.2.2.2.2.2.2.2.2.2.2.2.2.2.2), 40, by decide, rfl⟩) hP hD hS (Nat.le_refl _) (Nat.le_refl _) dMo_wrong_303
                                        · have c268 : 1 = 0 := (nI_eq (a := 1) (b := 0) (by omega) (by omega)).mp (show nI 1 = nI 0 from c268)
                                          exact absurd c268 (by decide)
                                      · rw [if_neg g265] at hw17
                                        subst hw17
                                        refine rw_i (y := nI 0) rfl ?_
                                        refine lv_if_ne (tgt := 274) hx hb dMo_wrong_268 (by decide) (fun c268 => ?_) (fun c268 => ?_)
                                        · have c268 : ¬ 0 = 0 := fun q9 => c268 (show nI 0 = nI 0 from (nI_eq (a := 0) (b := 0) (by omega) (by omega)).mpr q9)
                                          exact absurd (by decide) c268
                                        · have c268 : 0 = 0 := (nI_eq (a := 0) (b := 0) (by omega) (by omega)).mp (show nI 0 = nI 0 from c268)
                                          refine lv_bipush (v := nI 36) hx hb dMo_wrong_271 (by decide +kernel) ?_
                                          exact ct_ri hx hb hr hlocks () (Or.inr ⟨fun z => g265 z.2.2.2.2.2.2.2.2.2.2.2.2.1, 36, by decide, rfl⟩) hP hD hS (Nat.le_refl _) (Nat.le_refl _) dMo_wrong_273
                                    · have c248 : ¬ (nu oc 34 2) = 16 := fun q9 => c248 ((lg_cmp_eq _ _).mpr ((pk_lEQ (a := (nu oc 34 2)) (b := 16) (by omega) (by omega)).mpr q9))
                                      refine lv_bipush (v := nI 34) hx hb dMo_wrong_251 (by decide +kernel) ?_
                                      exact ct_ri hx hb hr hlocks () (Or.inr ⟨fun z => (z.2.2.2.2.2.2.2.2.2.2.2.1).elim c239 c248, 34, by decide, rfl⟩) hP hD hS (Nat.le_refl _) (Nat.le_refl _) dMo_wrong_253
                                · have c227 : ¬ (nu oc 32 2) = (((nu oc 22 2) * (nu oc 34 2)) / 8) := fun q9 => c227 ((lg_cmp_eq _ _).mpr ((pk_lEQ (a := (nu oc 32 2)) (b := (((nu oc 22 2) * (nu oc 34 2)) / 8)) (by omega) (by omega)).mpr q9))
                                  refine lv_bipush (v := nI 32) hx hb dMo_wrong_230 (by decide +kernel) ?_
                                  exact ct_ri hx hb hr hlocks () (Or.inr ⟨fun z => c227 z.2.2.2.2.2.2.2.2.2.2.1, 32, by decide, rfl⟩) hP hD hS (Nat.le_refl _) (Nat.le_refl _) dMo_wrong_232
                              · have c211 : ¬ (nu oc 28 4) = ((nu oc 24 4) * (nu oc 32 2)) := fun q9 => c211 ((lg_cmp_eq _ _).mpr ((pk_lEQ (a := (nu oc 28 4)) (b := ((nu oc 24 4) * (nu oc 32 2))) (by omega) (by omega)).mpr q9))
                                refine lv_bipush (v := nI 28) hx hb dMo_wrong_214 (by decide +kernel) ?_
                                exact ct_ri hx hb hr hlocks () (Or.inr ⟨fun z => c211 z.2.2.2.2.2.2.2.2.2.1, 28, by decide, rfl⟩) hP hD hS (Nat.le_refl _) (Nat.le_refl _) dMo_wrong_216
                            · have c188 : 1 = 0 := (nI_eq (a := 1) (b := 0) (by omega) (by omega)).mp (show nI 1 = nI 0 from c188)
                              exact absurd c188 (by decide)
                          · rw [if_neg g185] at hw13
                            subst hw13
                            refine rw_i (y := nI 0) rfl ?_
                            refine lv_if_ne (tgt := 194) hx hb dMo_wrong_188 (by decide) (fun c188 => ?_) (fun c188 => ?_)
                            · have c188 : ¬ 0 = 0 := fun q9 => c188 (show nI 0 = nI 0 from (nI_eq (a := 0) (b := 0) (by omega) (by omega)).mpr q9)
                              exact absurd (by decide) c188
                            · have c188 : 0 = 0 := (nI_eq (a := 0) (b := 0) (by omega) (by omega)).mp (show nI 0 = nI 0 from c188)
                              refine lv_bipush (v := nI 24) hx hb dMo_wrong_191 (by decide +kernel) ?_
                              exact ct_ri hx hb hr hlocks () (Or.inr ⟨fun z => g185 (fi_ni (by omega) z.2.2.2.2.2.2.2.2.1), 24, by decide, rfl⟩) hP hD hS (Nat.le_refl _) (Nat.le_refl _) dMo_wrong_193
                        · have c166 : 1 = 0 := (nI_eq (a := 1) (b := 0) (by omega) (by omega)).mp (show nI 1 = nI 0 from c166)
                          exact absurd c166 (by decide)
                      · rw [if_neg g163] at hw11
                        subst hw11
                        refine rw_i (y := nI 0) rfl ?_
                        refine lv_if_ne (tgt := 172) hx hb dMo_wrong_166 (by decide) (fun c166 => ?_) (fun c166 => ?_)
                        · have c166 : ¬ 0 = 0 := fun q9 => c166 (show nI 0 = nI 0 from (nI_eq (a := 0) (b := 0) (by omega) (by omega)).mpr q9)
                          exact absurd (by decide) c166
                        · have c166 : 0 = 0 := (nI_eq (a := 0) (b := 0) (by omega) (by omega)).mp (show nI 0 = nI 0 from c166)
                          refine lv_bipush (v := nI 22) hx hb dMo_wrong_169 (by decide +kernel) ?_
                          exact ct_ri hx hb hr hlocks () (Or.inr ⟨fun z => g163 (fi_ni (by omega) z.2.2.2.2.2.2.2.1), 22, by decide, rfl⟩) hP hD hS (Nat.le_refl _) (Nat.le_refl _) dMo_wrong_171
                    · have c152 : ¬ (nu oc 20 2) = 1 := fun q9 => c152 ((lg_cmp_eq _ _).mpr ((pk_lEQ (a := (nu oc 20 2)) (b := 1) (by omega) (by omega)).mpr q9))
                      refine lv_bipush (v := nI 20) hx hb dMo_wrong_155 (by decide +kernel) ?_
                      exact ct_ri hx hb hr hlocks () (Or.inr ⟨fun z => c152 z.2.2.2.2.2.2.1, 20, by decide, rfl⟩) hP hD hS (Nat.le_refl _) (Nat.le_refl _) dMo_wrong_157
                  · have c137 : ¬ (nu oc 16 4) = 16 := fun q9 => c137 ((lg_cmp_eq _ _).mpr ((pk_lEQ (a := (nu oc 16 4)) (b := 16) (by omega) (by omega)).mpr q9))
                    refine lv_bipush (v := nI 16) hx hb dMo_wrong_140 (by decide +kernel) ?_
                    exact ct_ri hx hb hr hlocks () (Or.inr ⟨fun z => c137 z.2.2.2.2.2.1, 16, by decide, rfl⟩) hP hD hS (Nat.le_refl _) (Nat.le_refl _) dMo_wrong_142
                · have c120 : 1 = 0 := (nI_eq (a := 1) (b := 0) (by omega) (by omega)).mp (show nI 1 = nI 0 from c120)
                  exact absurd c120 (by decide)
              · rw [if_neg g117] at hw8
                subst hw8
                refine rw_i (y := nI 0) rfl ?_
                refine lv_if_ne (tgt := 126) hx hb dMo_wrong_120 (by decide) (fun c120 => ?_) (fun c120 => ?_)
                · have c120 : ¬ 0 = 0 := fun q9 => c120 (show nI 0 = nI 0 from (nI_eq (a := 0) (b := 0) (by omega) (by omega)).mpr q9)
                  exact absurd (by decide) c120
                · have c120 : 0 = 0 := (nI_eq (a := 0) (b := 0) (by omega) (by omega)).mp (show nI 0 = nI 0 from c120)
                  refine lv_bipush (v := nI 12) hx hb dMo_wrong_123 (by decide +kernel) ?_
                  exact ct_ri hx hb hr hlocks () (Or.inr ⟨fun z => g117 z.2.2.2.2.1, 12, by decide, rfl⟩) hP hD hS (Nat.le_refl _) (Nat.le_refl _) dMo_wrong_125
            · have c100 : 1 = 0 := (nI_eq (a := 1) (b := 0) (by omega) (by omega)).mp (show nI 1 = nI 0 from c100)
              exact absurd c100 (by decide)
          · rw [if_neg g97] at hw7
            subst hw7
            refine rw_i (y := nI 0) rfl ?_
            refine lv_if_ne (tgt := 106) hx hb dMo_wrong_100 (by decide) (fun c100 => ?_) (fun c100 => ?_)
            · have c100 : ¬ 0 = 0 := fun q9 => c100 (show nI 0 = nI 0 from (nI_eq (a := 0) (b := 0) (by omega) (by omega)).mpr q9)
              exact absurd (by decide) c100
            · have c100 : 0 = 0 := (nI_eq (a := 0) (b := 0) (by omega) (by omega)).mp (show nI 0 = nI 0 from c100)
              refine lv_bipush (v := nI 8) hx hb dMo_wrong_103 (by decide +kernel) ?_
              exact ct_ri hx hb hr hlocks () (Or.inr ⟨fun z => g97 z.2.2.2.1, 8, by decide, rfl⟩) hP hD hS (Nat.le_refl _) (Nat.le_refl _) dMo_wrong_105
        · have c81 : ¬ (nu oc 4 4) = (n - 8) := fun q9 => c81 ((lg_cmp_eq _ _).mpr ((pk_lEQ (a := (nu oc 4 4)) (b := (n - 8)) (by omega) (by omega)).mpr q9))
          refine lv_iconst (v := nI 4) hx hb dMo_wrong_84 (by decide +kernel) ?_
          exact ct_ri hx hb hr hlocks () (Or.inr ⟨fun z => c81 z.2.2.1, 4, by decide, rfl⟩) hP hD hS (Nat.le_refl _) (Nat.le_refl _) dMo_wrong_85
      · have c61 : 1 = 0 := (nI_eq (a := 1) (b := 0) (by omega) (by omega)).mp (show nI 1 = nI 0 from c61)
        exact absurd c61 (by decide)
    · rw [if_neg g58] at hw5
      subst hw5
      refine rw_i (y := nI 0) rfl ?_
      refine lv_if_ne (tgt := 66) hx hb dMo_wrong_61 (by decide) (fun c61 => ?_) (fun c61 => ?_)
      · have c61 : ¬ 0 = 0 := fun q9 => c61 (show nI 0 = nI 0 from (nI_eq (a := 0) (b := 0) (by omega) (by omega)).mpr q9)
        exact absurd (by decide) c61
      · have c61 : 0 = 0 := (nI_eq (a := 0) (b := 0) (by omega) (by omega)).mp (show nI 0 = nI 0 from c61)
        refine lv_iconst (v := nI 0) hx hb dMo_wrong_64 (by decide +kernel) ?_
        exact ct_ri hx hb hr hlocks () (Or.inr ⟨fun z => g58 z.2.1, 0, by decide, rfl⟩) hP hD hS (Nat.le_refl _) (Nat.le_refl _) dMo_wrong_65
  · have c6 : ¬ 44 ≤ n := fun q9 => c6 (show nI 44 ≤ nI n from (nI_leI (a := 44) (b := n) (by omega) (by omega)).mpr q9)
    refine lv_aload_n hx hb dMo_wrong_9 rfl (lv_at hl 0 rfl) ?_
    refine va_get (D := (dC, dI)) (ci := 8) (v := .int (I 0 1)) (C := RMo) (T := TMo) (N := 27) hx hb hts inMo hown hK hP 0 rfl rfl 1 (by decide) (hts _ tw_648) (fun _ h9 => h9) rfl dMo_wrong_10 ?_
    refine rw_i (y := nI n) h1 ?_
    exact ct_ri hx hb hr hlocks () (Or.inr ⟨fun z => absurd z.1 (by omega), n, by omega, rfl⟩) hP hD hS (Nat.le_refl _) (Nat.le_refl _) dMo_wrong_13
