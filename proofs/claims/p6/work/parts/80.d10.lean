set_option maxHeartbeats 4000000 in
set_option maxRecDepth 100000 in
theorem kBo_takeOut (l : Launch) (dC : Nat → ClassId) (dI : Nat → Nat → Nat) (k : Nat → ClassId) (b P : Nat → Nat) (I : Nat → Nat → Int32) (D : Nat → Nat → UInt64) (sz : Nat) (x np : Nat) (hnp : np ≤ 6) (h6 : I 0 6 = nI np) (hx1 : x < np) (hp6 : ∀ j, j < 6 → P j < 6) : Met l yBo_takeOut wBo_takeOut ({ frames := 0, cells := 0, slots := 0, locals := 0 }) (va_Pc [.ref (b 12), .int (nI x)] (ct_pre (dC, dI) (de_ty k) ev_N (wd k b P I D) sz)) (va_Qi (fun r (u : Nat → Nat) => r = I 2 (P x) ∧ ∀ z, u z = if z = np - 1 then P x else if x ≤ z ∧ z < np - 1 then P (z + 1) else P z) (fun u t => ct_at (dC, dI) (va_A (wd k b P I D) sz) ((fun u => wd k b u (ui I 0 6 (nI (np - 1))) D) u) t) (va_A (wd k b P I D) sz)) 0 0 (va_A (wd k b P I D) sz) := by
  refine Met.ofW (cc := cBo_takeOut) (maxL := 4) (ret := (some .int)) (by decide) rfl ?_
  intro p e s m args below meth c s₁ B hml hv
  obtain ⟨rfl, hsz, hP, hK, hD0, hE⟩ := hv
  have hx := B.exec
  have hb := B.bytes
  have hr := B.returns
  have hts : ∀ w ∈ W0, w.before [.ref (b 12), .int (nI x)].toArray s = true := fun w h => atoms_spec (ws := wBo_takeOut) B.pre w (List.mem_cons_of_mem _ h)
  have hown : s.vm.findClass RBo = some m.cls := findClass_of_methodNamed B.named
  have hlocks := B.notSynchronized
  subst hsz
  have hP0 := hP
  have hD := hD0.self (sz := s.heap.size)
  generalize hAe : va_A (wd k b P I D) s.heap.size = A at hD ⊢
  have hA : ∀ q : Nat, s.heap.size ≤ q → A q := fun q h => by rw [← hAe]; exact Or.inr h
  have hS : va_S A s.heap s.heap [] := va_S.rf
  have hl := lv_entry ([.ref (b 12), .int (nI x)]) (n := 4) (Nat.le_of_ble_eq_true rfl)
  rw [lg_entry_eq]
  generalize (lg_sl ([.ref (b 12), .int (nI x)]) ++ List.replicate (4 - (lg_sl ([.ref (b 12), .int (nI x)])).length) Slot.unset).toArray = ls at hl ⊢
  have hl : lv_has ls 4 [(0, .ref (b 12)), (1, .int (nI x))] := hl
  refine lp_q (fun Q9 hQ9 => ?_)
  refine lv_aload_n hx hb dBo_takeOut_0 rfl (lv_at hl 0 rfl) ?_
  refine va_get (D := (dC, dI)) (ci := 2) (v := .ref (b 13)) (C := RBo) (T := TBo) (N := 3) hx hb hts inBo hown hK hP 12 rfl rfl 0 (by decide) (hts _ tw_129) (fun _ h9 => h9) rfl dBo_takeOut_1 ?_
  refine lv_iload_n hx hb dBo_takeOut_4 rfl (lv_at hl 1 rfl) ?_
  refine rw_ald_q (x := b (17 + P x)) hx hb hK hP 13 2 rfl rfl (if_pos (by omega)) (by omega) (by decide) dBo_takeOut_5 ?_
  refine lv_astore_n (lv' := [(2, .ref (b (17 + P x))), (0, .ref (b 12)), (1, .int (nI x))]) hx hb dBo_takeOut_6 rfl hl (by decide) rfl (fun ls hl => ?_)
  refine lv_iload_n hx hb dBo_takeOut_7 rfl (lv_at hl 2 rfl) ?_
  refine lv_istore_n (lv' := [(3, .int (nI x)), (2, .ref (b (17 + P x))), (0, .ref (b 12)), (1, .int (nI x))]) hx hb dBo_takeOut_8 rfl hl (by decide) rfl (fun ls hl => ?_)
  have L9 : ∀ (n9 : Nat) (i : Nat) (Q : Nat → Nat), np - 1 - i < n9 → x ≤ i → i ≤ np - 1 → (∀ z, Q z = if x ≤ z ∧ z < i then P (z + 1) else P z) → ∀ (H : Heap) (locs : List Loc), va_P (dC, dI) vwCl (wd k b Q I D) H → va_D A (wd k b Q I D) → va_S A s.heap H locs → ∀ ls : Array Slot, lv_has ls 4 [(0, .ref (b 12)), (1, .int (nI x)), (2, .ref (b (17 + P x))), (3, .int (nI i))] → W p l e (headSpec wBo_takeOut ({ frames := 0, cells := 0, slots := 0, locals := 0 })).room s m [.ref (b 12), .int (nI x)].toArray below meth c H locs 0 0 Q9 (F0 m 9 ls []) := by
    intro n9
    induction n9 with
    | zero => intro i Q hm; exact absurd hm (Nat.not_lt_zero _)
    | succ n9 ih9 =>
      intro i Q hm9 hi hi2 hQ H locs hP hD hS ls hl
      refine lv_iload_n hx hb dBo_takeOut_9 rfl (lv_at hl 3 rfl) ?_
      refine lv_aload_n hx hb dBo_takeOut_10 rfl (lv_at hl 0 rfl) ?_
      refine va_get (D := (dC, dI)) (ci := 2) (v := .int (I 0 6)) (C := RBo) (T := TBo) (N := 3) hx hb hts inBo hown hK hP 12 rfl rfl 2 (by decide) (hts _ tw_133) (fun _ h9 => h9) rfl dBo_takeOut_11 ?_
      refine rw_i (y := nI np) h6 ?_
      refine lv_iconst (v := nI 1) hx hb dBo_takeOut_14 (by decide +kernel) ?_
      refine lv_isub hx hb dBo_takeOut_15 ?_
      refine rw_i (y := nI (np - 1)) (pk_sub (by omega)) ?_
      refine lv_icmp_ge (tgt := 39) hx hb dBo_takeOut_16 (by decide) (fun c16 => ?_) (fun c16 => ?_)
      · have c16 : (np - 1) ≤ i := (nI_leI (a := (np - 1)) (b := i) (by omega) (by omega)).mp (show nI (np - 1) ≤ nI i from c16)
        refine lv_aload_n hx hb dBo_takeOut_39 rfl (lv_at hl 0 rfl) ?_
        refine lv_dup hx hb dBo_takeOut_40 rfl ?_
        refine va_get (D := (dC, dI)) (ci := 2) (v := .int (I 0 6)) (C := RBo) (T := TBo) (N := 3) hx hb hts inBo hown hK hP 12 rfl rfl 2 (by decide) (hts _ tw_133) (fun _ h9 => h9) rfl dBo_takeOut_41 ?_
        refine rw_i (y := nI np) h6 ?_
        refine lv_iconst (v := nI 1) hx hb dBo_takeOut_44 (by decide +kernel) ?_
        refine lv_isub hx hb dBo_takeOut_45 ?_
        refine rw_i (y := nI (np - 1)) (pk_sub (by omega)) ?_
        refine va_put (D := (dC, dI)) (ci := 2) (fs := bo_f b I D) (v := .int (nI (np - 1))) (ty := .int) (C := RBo) (T := TBo) (N := 3) hx hb hts inBo tyBo tyBo_ok nmBo hown hK hP hD hS 12 rfl rfl 2 (by decide) (hts _ tw_133) (fun _ h9 => h9) rfl (by decide +kernel) rfl rfl (Nat.le_of_ble_eq_true rfl) dBo_takeOut_46 (fun H locs hP hD hS => ?_)
        rw [wd_p12_2] at hP hD
        obtain ⟨I1, eI1⟩ : ∃ z, z = ui I 0 6 (nI (np - 1)) := ⟨_, rfl⟩
        rw [← eI1] at hP hD
        refine lv_aload_n hx hb dBo_takeOut_49 rfl (lv_at hl 0 rfl) ?_
        refine va_get (D := (dC, dI)) (ci := 2) (v := .ref (b 13)) (C := RBo) (T := TBo) (N := 3) hx hb hts inBo hown hK hP 12 rfl rfl 0 (by decide) (hts _ tw_129) (fun _ h9 => h9) rfl dBo_takeOut_50 ?_
        refine lv_aload_n hx hb dBo_takeOut_53 rfl (lv_at hl 0 rfl) ?_
        refine va_get (D := (dC, dI)) (ci := 2) (v := .int (I1 0 6)) (C := RBo) (T := TBo) (N := 3) hx hb hts inBo hown hK hP 12 rfl rfl 2 (by decide) (hts _ tw_133) (fun _ h9 => h9) rfl dBo_takeOut_54 ?_
        refine rw_i (y := nI (np - 1)) (by rw [eI1, ui_s]) ?_
        refine lv_aload_n hx hb dBo_takeOut_57 rfl (lv_at hl 2 rfl) ?_
        refine rw_ast_q hx hb hK hP hD hS 13 2 (17 + P x) 1 rfl rfl (wd_pa (hp6 x (by omega))) rfl (by omega) (by decide) dBo_takeOut_58 (fun H locs hP hD hS => ?_)
        rw [wd_ar (by omega)] at hP hD
        refine lv_aload_n hx hb dBo_takeOut_59 rfl (lv_at hl 2 rfl) ?_
        refine va_getN (D := (dC, dI)) (ci := 1) (v := .int (I1 2 (P x))) (C := RPa) (T := TPa) (N := 3) hx hb hts inPa hown hK hP (17 + P x) (wd_pa (hp6 x (by omega))) rfl 1 (by decide) (va_Nw.use rfl (hE _ en_117)) (fun _ h9 => h9) rfl dBo_takeOut_60 ?_
        refine rw_i (y := I 2 (P x)) (by rw [eI1, ui_o _ _ _ (by decide)]) ?_
        rw [eI1] at hP hD
        have hQ3 : ∀ z, (un Q (np - 1) (P x)) z = if z = np - 1 then P x else if x ≤ z ∧ z < np - 1 then P (z + 1) else P z := fun z => by
          unfold un
          by_cases e9 : z = np - 1
          · rw [if_pos e9, if_pos e9]
          · rw [if_neg e9, if_neg e9, hQ, show i = np - 1 by omega]
        rw [hQ9]
        exact ct_ri hx hb hr hlocks (un Q (np - 1) (P x)) (⟨rfl, hQ3⟩) hP hD hS (Nat.le_refl _) (Nat.le_refl _) dBo_takeOut_63
      · have c16 : ¬ (np - 1) ≤ i := fun q9 => c16 (show nI (np - 1) ≤ nI i from (nI_leI (a := (np - 1)) (b := i) (by omega) (by omega)).mpr q9)
        refine lv_aload_n hx hb dBo_takeOut_19 rfl (lv_at hl 0 rfl) ?_
        refine va_get (D := (dC, dI)) (ci := 2) (v := .ref (b 13)) (C := RBo) (T := TBo) (N := 3) hx hb hts inBo hown hK hP 12 rfl rfl 0 (by decide) (hts _ tw_129) (fun _ h9 => h9) rfl dBo_takeOut_20 ?_
        refine lv_iload_n hx hb dBo_takeOut_23 rfl (lv_at hl 3 rfl) ?_
        refine lv_aload_n hx hb dBo_takeOut_24 rfl (lv_at hl 0 rfl) ?_
        refine va_get (D := (dC, dI)) (ci := 2) (v := .ref (b 13)) (C := RBo) (T := TBo) (N := 3) hx hb hts inBo hown hK hP 12 rfl rfl 0 (by decide) (hts _ tw_129) (fun _ h9 => h9) rfl dBo_takeOut_25 ?_
        refine lv_iload_n hx hb dBo_takeOut_28 rfl (lv_at hl 3 rfl) ?_
        refine lv_iconst (v := nI 1) hx hb dBo_takeOut_29 (by decide +kernel) ?_
        refine lv_iadd hx hb dBo_takeOut_30 ?_
        refine rw_i (y := nI (i + 1)) (nI_add _ _) ?_
        refine rw_ald_q (x := b (17 + Q (i + 1))) hx hb hK hP 13 2 rfl rfl (if_pos (by omega)) (by omega) (by decide) dBo_takeOut_31 ?_
        refine rw_ast_q hx hb hK hP hD hS 13 2 (17 + Q (i + 1)) 1 rfl rfl (wd_pa (by rw [hQ]; split <;> exact hp6 _ (by omega))) rfl (by omega) (by decide) dBo_takeOut_32 (fun H locs hP hD hS => ?_)
        rw [wd_ar (by omega)] at hP hD
        refine lv_iinc (v := nI (i + 1)) (lv' := [(3, .int (nI (i + 1))), (0, .ref (b 12)), (1, .int (nI x)), (2, .ref (b (17 + P x)))]) hx hb dBo_takeOut_33 hl (k := 3) rfl (nI_1 _) (by decide) rfl (fun ls hl => ?_)
        refine lv_goto (tgt := 9) hx hb dBo_takeOut_36 (by decide) ?_
        have hQ2 : ∀ z, (un Q i (Q (i + 1))) z = if x ≤ z ∧ z < i + 1 then P (z + 1) else P z := fun z => by
          unfold un
          by_cases e9 : z = i
          · rw [if_pos e9, hQ, if_neg (by omega), if_pos (by omega), e9]
          · rw [if_neg e9, hQ]; by_cases e8 : x ≤ z ∧ z < i
            · rw [if_pos e8, if_pos (by omega)]
            · rw [if_neg e8, if_neg (by omega)]
        exact ih9 (i + 1) (un Q i (Q (i + 1))) (by omega) (by omega) (by omega) hQ2 _ _ hP hD hS ls (lv_sub hl [1, 2, 3, 0] rfl)
  exact L9 _ x P (Nat.lt_succ_self _) (by omega) (by omega) (fun z => by rw [if_neg (by omega)]) _ _ hP hD hS ls (lv_sub hl [2, 3, 1, 0] rfl)
set_option maxHeartbeats 4000000 in
set_option maxRecDepth 100000 in
theorem kBo_append (l : Launch) (dC : Nat → ClassId) (dI : Nat → Nat → Nat) (k : Nat → ClassId) (b P : Nat → Nat) (I : Nat → Nat → Int32) (D : Nat → Nat → UInt64) (sz : Nat) (le : Int32) (f n9 np : Nat) (hnp : np < 6) (h6 : I 0 6 = nI np) (hpn : P np < 6) (hf : f + n9 ≤ 19) (hn8 : n9 ≤ 8) : Met l yBo_append wBo_append ({ frames := 1, cells := 0, slots := 0, locals := 40 }) (va_Pc [.ref (b 12), .int le, .ref (b 11), .int (nI f), .int (nI n9)] (ct_pre (dC, dI) (de_ty k) ev_N (wd k b P I D) sz)) (va_Qv (fun (u : (Nat → Nat → Int32) × (Nat → UInt64)) => u.1 = ui (ui (ui I 2 (P np) le) 3 (P np) (nI n9)) 0 6 (nI (np + 1)) ∧ ∀ q, q < 4 * n9 → u.2 q = D 4 (4 * f + q)) (fun u t => ct_at (dC, dI) (va_A (wd k b P I D) sz) ((fun u => wd k b P u.1 (us D (10 + P np) u.2)) u) t) (va_A (wd k b P I D) sz)) 0 0 (va_A (wd k b P I D) sz) := by
  refine Met.ofW (cc := cBo_append) (maxL := 6) (ret := none) (by decide) rfl ?_
  intro p e s m args below meth c s₁ B hml hv
  obtain ⟨rfl, hsz, hP, hK, hD0, hE⟩ := hv
  have hx := B.exec
  have hb := B.bytes
  have hr := B.returns
  have hts : ∀ w ∈ W0, w.before [.ref (b 12), .int le, .ref (b 11), .int (nI f), .int (nI n9)].toArray s = true := fun w h => atoms_spec (ws := wBo_append) B.pre w (List.mem_cons_of_mem _ h)
  have hown : s.vm.findClass RBo = some m.cls := findClass_of_methodNamed B.named
  have hlocks := B.notSynchronized
  subst hsz
  have hP0 := hP
  have hD := hD0.self (sz := s.heap.size)
  generalize hAe : va_A (wd k b P I D) s.heap.size = A at hD ⊢
  have hA : ∀ q : Nat, s.heap.size ≤ q → A q := fun q h => by rw [← hAe]; exact Or.inr h
  have hS : va_S A s.heap s.heap [] := va_S.rf
  have hl := lv_entry ([.ref (b 12), .int le, .ref (b 11), .int (nI f), .int (nI n9)]) (n := 6) (Nat.le_of_ble_eq_true rfl)
  rw [lg_entry_eq]
  generalize (lg_sl ([.ref (b 12), .int le, .ref (b 11), .int (nI f), .int (nI n9)]) ++ List.replicate (6 - (lg_sl ([.ref (b 12), .int le, .ref (b 11), .int (nI f), .int (nI n9)])).length) Slot.unset).toArray = ls at hl ⊢
  have hl : lv_has ls 6 [(0, .ref (b 12)), (1, .int le), (2, .ref (b 11)), (3, .int (nI f)), (4, .int (nI n9))] := hl
  refine lv_aload_n hx hb dBo_append_0 rfl (lv_at hl 0 rfl) ?_
  refine va_get (D := (dC, dI)) (ci := 2) (v := .int (I 0 6)) (C := RBo) (T := TBo) (N := 3) hx hb hts inBo hown hK hP 12 rfl rfl 2 (by decide) (hts _ tw_133) (fun _ h9 => h9) rfl dBo_append_1 ?_
  refine rw_i (y := nI np) h6 ?_
  refine lv_bipush (v := nI 6) hx hb dBo_append_4 (by decide +kernel) ?_
  refine lv_icmp_ge (tgt := 60) hx hb dBo_append_6 (by decide) (fun c6 => ?_) (fun c6 => ?_)
  · have c6 : 6 ≤ np := (nI_leI (a := 6) (b := np) (by omega) (by omega)).mp (show nI 6 ≤ nI np from c6)
    exact absurd c6 (by omega)
  · have c6 : ¬ 6 ≤ np := fun q9 => c6 (show nI 6 ≤ nI np from (nI_leI (a := 6) (b := np) (by omega) (by omega)).mpr q9)
    refine lv_aload_n hx hb dBo_append_9 rfl (lv_at hl 0 rfl) ?_
    refine va_get (D := (dC, dI)) (ci := 2) (v := .ref (b 13)) (C := RBo) (T := TBo) (N := 3) hx hb hts inBo hown hK hP 12 rfl rfl 0 (by decide) (hts _ tw_129) (fun _ h9 => h9) rfl dBo_append_10 ?_
    refine lv_aload_n hx hb dBo_append_13 rfl (lv_at hl 0 rfl) ?_
    refine va_get (D := (dC, dI)) (ci := 2) (v := .int (I 0 6)) (C := RBo) (T := TBo) (N := 3) hx hb hts inBo hown hK hP 12 rfl rfl 2 (by decide) (hts _ tw_133) (fun _ h9 => h9) rfl dBo_append_14 ?_
    refine rw_i (y := nI np) h6 ?_
    refine rw_ald_q (x := b (17 + P np)) hx hb hK hP 13 2 rfl rfl (if_pos (by omega)) (by omega) (by decide) dBo_append_17 ?_
    refine lv_astore (lv' := [(5, .ref (b (17 + P np))), (0, .ref (b 12)), (1, .int le), (2, .ref (b 11)), (3, .int (nI f)), (4, .int (nI n9))]) hx hb dBo_append_18 hl (by decide) rfl (fun ls hl => ?_)
    refine lv_aload hx hb dBo_append_20 (lv_at hl 0 rfl) ?_
    refine lv_iload_n hx hb dBo_append_22 rfl (lv_at hl 2 rfl) ?_
    refine va_putN (D := (dC, dI)) (ci := 1) (fs := pa_f (P np) b I D) (v := .int le) (ty := .int) (C := RPa) (T := TPa) (N := 3) hx hb hts inPa tyPa tyPa_ok nmPa hown hK hP hD hS (17 + P np) (wd_pa hpn) rfl 1 (by decide) (va_Nw.use rfl (hE _ en_117)) (fun _ h9 => h9) rfl (by decide +kernel) rfl rfl (Nat.le_of_ble_eq_true rfl) dBo_append_23 (fun H locs hP hD hS => ?_)
    rw [wd_pp1 hpn] at hP hD
    obtain ⟨I1, eI1⟩ : ∃ z, z = ui I 2 (P np) le := ⟨_, rfl⟩
    rw [← eI1] at hP hD
    refine lv_aload hx hb dBo_append_26 (lv_at hl 0 rfl) ?_
    refine lv_iload hx hb dBo_append_28 (lv_at hl 5 rfl) ?_
    refine va_putN (D := (dC, dI)) (ci := 1) (fs := pa_f (P np) b I1 D) (v := .int (nI n9)) (ty := .int) (C := RPa) (T := TPa) (N := 3) hx hb hts inPa tyPa tyPa_ok nmPa hown hK hP hD hS (17 + P np) (wd_pa hpn) rfl 2 (by decide) (va_Nw.use rfl (hE _ en_120)) (fun _ h9 => h9) rfl (by decide +kernel) rfl rfl (Nat.le_of_ble_eq_true rfl) dBo_append_30 (fun H locs hP hD hS => ?_)
    rw [wd_pp2 hpn] at hP hD
    obtain ⟨I2, eI2⟩ : ∃ z, z = ui I1 3 (P np) (nI n9) := ⟨_, rfl⟩
    rw [← eI2] at hP hD
    refine lv_aload_n hx hb dBo_append_33 rfl (lv_at hl 3 rfl) ?_
    refine lv_iload_n hx hb dBo_append_34 rfl (lv_at hl 4 rfl) ?_
    refine lv_iconst (v := nI 4) hx hb dBo_append_35 (by decide +kernel) ?_
    refine lv_imul hx hb dBo_append_36 ?_
    refine rw_i (y := nI (f * 4)) (pk_mul _ _) ?_
    refine lv_aload hx hb dBo_append_37 (lv_at hl 0 rfl) ?_
    refine va_getN (D := (dC, dI)) (ci := 1) (v := .ref (b (23 + P np))) (C := RPa) (T := TPa) (N := 3) hx hb hts inPa hown hK hP (17 + P np) (wd_pa hpn) rfl 0 (by decide) (va_Nw.use rfl (hE _ en_114)) (fun _ h9 => h9) rfl dBo_append_39 ?_
    refine lv_iconst (v := nI 0) hx hb dBo_append_42 (by decide +kernel) ?_
    refine lv_iload hx hb dBo_append_43 (lv_at hl 5 rfl) ?_
    refine lv_iconst (v := nI 4) hx hb dBo_append_45 (by decide +kernel) ?_
    refine lv_imul hx hb dBo_append_46 ?_
    refine rw_i (y := nI (n9 * 4)) (pk_mul _ _) ?_
    refine va_copyd hx hb (hml.trans hl.1.symm) hown (hts _ tw_509) (hts _ tw_511) (hts _ tw_510) (hts _ tw_16) hK hP hD hS 11 (23 + P np) 1 1 rfl (wd_pl hpn) rfl rfl rfl (nI_pos (by omega)) (nI_pos (by omega)) (nI_pos (by omega)) (by rw [nI_clamp (by omega), nI_clamp (by omega)]; omega) (by rw [nI_clamp (by omega), nI_clamp (by omega)]; omega) (fun _ _ => rfl) (Nat.le_of_ble_eq_true rfl) (by decide +kernel) dBo_append_47 (fun H locs hP hD hS => ?_)
    rw [wd_al hpn] at hP hD
    obtain ⟨g9, eg9⟩ : ∃ z, z = va_cpy (D 4) (D (10 + P np)) (nI (f * 4)).toNatClampNeg (nI 0).toNatClampNeg (nI (n9 * 4)).toNatClampNeg := ⟨_, rfl⟩
    rw [← eg9] at hP hD
    have hg9 : ∀ q, q < 4 * n9 → g9 q = D 4 (4 * f + q) := fun q hq => by
      rw [eg9, nI_clamp (by omega), nI_clamp (by omega), nI_clamp (by omega)]
      unfold va_cpy
      rw [if_pos (by omega)]
      exact congrArg (D 4) (by omega)
    refine lv_aload_n hx hb dBo_append_50 rfl (lv_at hl 1 rfl) ?_
    refine lv_dup hx hb dBo_append_51 rfl ?_
    refine va_get (D := (dC, dI)) (ci := 2) (v := .int (I2 0 6)) (C := RBo) (T := TBo) (N := 3) hx hb hts inBo hown hK hP 12 rfl rfl 2 (by decide) (hts _ tw_133) (fun _ h9 => h9) rfl dBo_append_52 ?_
    refine rw_i (y := I 0 6) (by rw [eI2, ui_o _ _ _ (by decide), eI1, ui_o _ _ _ (by decide)]) ?_
    refine rw_i (y := nI np) h6 ?_
    refine lv_iconst (v := nI 1) hx hb dBo_append_55 (by decide +kernel) ?_
    refine lv_iadd hx hb dBo_append_56 ?_
    refine rw_i (y := nI (np + 1)) (nI_add _ _) ?_
    refine va_put (D := (dC, dI)) (ci := 2) (fs := bo_f b I2 (us D (10 + P np) g9)) (v := .int (nI (np + 1))) (ty := .int) (C := RBo) (T := TBo) (N := 3) hx hb hts inBo tyBo tyBo_ok nmBo hown hK hP hD hS 12 rfl rfl 2 (by decide) (hts _ tw_133) (fun _ h9 => h9) rfl (by decide +kernel) rfl rfl (Nat.le_of_ble_eq_true rfl) dBo_append_57 (fun H locs hP hD hS => ?_)
    rw [wd_p12_2] at hP hD
    obtain ⟨I3, eI3⟩ : ∃ z, z = ui I2 0 6 (nI (np + 1)) := ⟨_, rfl⟩
    rw [← eI3] at hP hD
    exact ct_rv hx hb hr hlocks (I3, g9) (⟨by rw [eI3, eI2, eI1], hg9⟩) hP hD hS (Nat.le_refl _) (Nat.le_refl _) dBo_append_60
set_option maxHeartbeats 4000000 in
set_option maxRecDepth 100000 in
theorem kDe_warp (l : Launch) (hln : l.stackTraces = false) (dC : Nat → ClassId) (dI : Nat → Nat → Nat) (k : Nat → ClassId) (b P : Nat → Nat) (I : Nat → Nat → Int32) (D : Nat → Nat → UInt64) (sz : Nat) (k9 j9 : Int32) (np : Nat) (rw9 : Nat → Nat) (hnp : np ≤ 6) (h6 : I 0 6 = nI np) (hp6 : ∀ j, j < 6 → P j < 6) (hr9 : ∀ j, j < np → I 3 (P j) = nI (rw9 j) ∧ 1 ≤ rw9 j ∧ rw9 j ≤ 8) (hl9 : ∀ j, j < np → ∀ q, q < 4 * rw9 j → fb_ 1155 (D (10 + P j) q)) : ex_Met l yDe_warp wDe_warp ({ frames := 6, cells := 1, slots := 6, locals := 82 }) (va_Pc [.ref (b 0), .int k9, .int j9] (ct_pre (dC, dI) (de_ty k) ev_D (wd k b P I D) sz)) (va_Qd (fun r (_ : Nat → UInt64) => ∃ x, x < np ∧ k9 = nI x ∧ ∃ y, y < np ∧ j9 = nI y ∧ r = hw_wa (D (10 + P x)) (D (10 + P y)) (rw9 x) (rw9 y)) (fun u t => ct_at (dC, dI) (va_A (wd k b P I D) sz) ((fun u => wd k b P I (us D 8 u)) u) t) (va_A (wd k b P I D) sz)) (ct_X (dC, dI) (va_A (wd k b P I D) sz) (fun E (u : Nat → UInt64) => u = D 8 ∧ E = th_NS ∧ ¬ ((∃ j, j < np ∧ k9 = nI j) ∧ ∃ j, j < np ∧ j9 = nI j)) (fun u => wd k b P I (us D 8 u))) 1 6 (va_A (wd k b P I D) sz) := by
  refine ex_met (cc := cDe_warp) (maxL := 3) (ret := (some .double)) (by decide) rfl ?_
  intro p e s m args below meth c s₁ B hml htab hv
  obtain ⟨rfl, hsz, hP, hK, hD0, hE⟩ := hv
  have hx := B.exec
  have hb := B.bytes
  have hr := B.returns
  have hts : ∀ w ∈ W0, w.before [.ref (b 0), .int k9, .int j9].toArray s = true := fun w h => atoms_spec (ws := wDe_warp) B.pre w (List.mem_cons_of_mem _ h)
  have hown : s.vm.findClass RDe = some m.cls := findClass_of_methodNamed B.named
  have hlocks := B.notSynchronized
  subst hsz
  have hP0 := hP
  have hD := hD0.self (sz := s.heap.size)
  generalize hAe : va_A (wd k b P I D) s.heap.size = A at hD ⊢
  have hA : ∀ q : Nat, s.heap.size ≤ q → A q := fun q h => by rw [← hAe]; exact Or.inr h
  have hS : va_S A s.heap s.heap [] := va_S.rf
  have hl := lv_entry ([.ref (b 0), .int k9, .int j9]) (n := 3) (Nat.le_of_ble_eq_true rfl)
  rw [lg_entry_eq]
  generalize (lg_sl ([.ref (b 0), .int k9, .int j9]) ++ List.replicate (3 - (lg_sl ([.ref (b 0), .int k9, .int j9])).length) Slot.unset).toArray = ls at hl ⊢
  have hl : lv_has ls 3 [(0, .ref (b 0)), (1, .int k9), (2, .int j9)] := hl
  refine lv_iload_n hx hb dDe_warp_0 rfl (lv_at hl 1 rfl) ?_
  refine lv_if_lt (tgt := 30) hx hb dDe_warp_1 (by decide) (fun c1 => ?_) (fun c1 => ?_)
  · rw [← us_id D 8] at hP hD
    exact th_throwN hx hb hln (text := "there is no such pattern") hown hP0 hAe hts hE.2 t3_162_164 (hl.1.trans hml.symm) htab dDe_warp_30 dDe_warp_33 dDe_warp_34 dDe_warp_36 dDe_warp_39 hlocks (D 8) (⟨rfl, rfl, by first | (exact fun z => dj_lo (by omega) c1 z.1) | (exact fun z => dj_hi (by omega) c27 z.2) | (exact fun z => dj_lo (by omega) c16 z.2) | (exact fun z => dj_hi (by omega) (fun y => Int32.not_le.mpr y c12) z.1)⟩) hP hD hS (Nat.le_of_ble_eq_true rfl) (Nat.le_of_ble_eq_true rfl) (Nat.le_of_ble_eq_true rfl) (Nat.le_of_ble_eq_true rfl) (Nat.le_refl _) (Nat.le_refl _)
  · refine lv_iload_n hx hb dDe_warp_4 rfl (lv_at hl 1 rfl) ?_
    refine lv_aload_n hx hb dDe_warp_5 rfl (lv_at hl 0 rfl) ?_
    refine va_get (D := (dC, dI)) (ci := 7) (v := .ref (b 12)) (C := RDe) (T := TDe) (N := 10) hx hb hts inDe hown hK hP 0 rfl rfl 3 (by decide) (hts _ tw_195) (fun _ h9 => h9) rfl dDe_warp_6 ?_
    refine va_getN (D := (dC, dI)) (ci := 2) (v := .int (I 0 6)) (C := RBo) (T := TBo) (N := 3) hx hb hts inBo hown hK hP 12 rfl rfl 2 (by decide) (va_Nw.use rfl (hE.1 _ en_135)) (fun _ h9 => h9) rfl dDe_warp_9 ?_
    refine rw_i (y := nI np) h6 ?_
    refine lv_icmp_ge (tgt := 30) hx hb dDe_warp_12 (by decide) (fun c12 => ?_) (fun c12 => ?_)
    · rw [← us_id D 8] at hP hD
      exact th_throwN hx hb hln (text := "there is no such pattern") hown hP0 hAe hts hE.2 t3_162_164 (hl.1.trans hml.symm) htab dDe_warp_30 dDe_warp_33 dDe_warp_34 dDe_warp_36 dDe_warp_39 hlocks (D 8) (⟨rfl, rfl, by first | (exact fun z => dj_lo (by omega) c1 z.1) | (exact fun z => dj_hi (by omega) c27 z.2) | (exact fun z => dj_lo (by omega) c16 z.2) | (exact fun z => dj_hi (by omega) (fun y => Int32.not_le.mpr y c12) z.1)⟩) hP hD hS (Nat.le_of_ble_eq_true rfl) (Nat.le_of_ble_eq_true rfl) (Nat.le_of_ble_eq_true rfl) (Nat.le_of_ble_eq_true rfl) (Nat.le_refl _) (Nat.le_refl _)
    · obtain ⟨x, hx1, rfl⟩ := dj_in (by omega) c1 (Int32.not_le.mp c12)
      refine lv_iload_n hx hb dDe_warp_15 rfl (lv_at hl 2 rfl) ?_
      refine lv_if_lt (tgt := 30) hx hb dDe_warp_16 (by decide) (fun c16 => ?_) (fun c16 => ?_)
      · rw [← us_id D 8] at hP hD
        exact th_throwN hx hb hln (text := "there is no such pattern") hown hP0 hAe hts hE.2 t3_162_164 (hl.1.trans hml.symm) htab dDe_warp_30 dDe_warp_33 dDe_warp_34 dDe_warp_36 dDe_warp_39 hlocks (D 8) (⟨rfl, rfl, by first | (exact fun z => dj_lo (by omega) c1 z.1) | (exact fun z => dj_hi (by omega) c27 z.2) | (exact fun z => dj_lo (by omega) c16 z.2) | (exact fun z => dj_hi (by omega) (fun y => Int32.not_le.mpr y c12) z.1)⟩) hP hD hS (Nat.le_of_ble_eq_true rfl) (Nat.le_of_ble_eq_true rfl) (Nat.le_of_ble_eq_true rfl) (Nat.le_of_ble_eq_true rfl) (Nat.le_refl _) (Nat.le_refl _)
      · refine lv_iload_n hx hb dDe_warp_19 rfl (lv_at hl 2 rfl) ?_
        refine lv_aload_n hx hb dDe_warp_20 rfl (lv_at hl 0 rfl) ?_
        refine va_get (D := (dC, dI)) (ci := 7) (v := .ref (b 12)) (C := RDe) (T := TDe) (N := 10) hx hb hts inDe hown hK hP 0 rfl rfl 3 (by decide) (hts _ tw_195) (fun _ h9 => h9) rfl dDe_warp_21 ?_
        refine va_getN (D := (dC, dI)) (ci := 2) (v := .int (I 0 6)) (C := RBo) (T := TBo) (N := 3) hx hb hts inBo hown hK hP 12 rfl rfl 2 (by decide) (va_Nw.use rfl (hE.1 _ en_135)) (fun _ h9 => h9) rfl dDe_warp_24 ?_
        refine rw_i (y := nI np) h6 ?_
        refine lv_icmp_lt (tgt := 40) hx hb dDe_warp_27 (by decide) (fun c27 => ?_) (fun c27 => ?_)
        · obtain ⟨y, hy1, rfl⟩ := dj_in (by omega) c16 c27
          have rx := hr9 x hx1
          have ry := hr9 y hy1
          refine lv_aload_n hx hb dDe_warp_40 rfl (lv_at hl 0 rfl) ?_
          refine va_get (D := (dC, dI)) (ci := 7) (v := .ref (b 12)) (C := RDe) (T := TDe) (N := 10) hx hb hts inDe hown hK hP 0 rfl rfl 3 (by decide) (hts _ tw_195) (fun _ h9 => h9) rfl dDe_warp_41 ?_
          refine lv_aload_n hx hb dDe_warp_44 rfl (lv_at hl 0 rfl) ?_
          refine va_get (D := (dC, dI)) (ci := 7) (v := .ref (b 12)) (C := RDe) (T := TDe) (N := 10) hx hb hts inDe hown hK hP 0 rfl rfl 3 (by decide) (hts _ tw_195) (fun _ h9 => h9) rfl dDe_warp_45 ?_
          refine va_getN (D := (dC, dI)) (ci := 2) (v := .ref (b 13)) (C := RBo) (T := TBo) (N := 3) hx hb hts inBo hown hK hP 12 rfl rfl 0 (by decide) (va_Nw.use rfl (hE.1 _ en_131)) (fun _ h9 => h9) rfl dDe_warp_48 ?_
          refine lv_iload_n hx hb dDe_warp_51 rfl (lv_at hl 1 rfl) ?_
          refine rw_ald_q (x := b (17 + P x)) hx hb hK hP 13 2 rfl rfl (if_pos (by omega)) (by omega) (by decide) dDe_warp_52 ?_
          refine va_getN (D := (dC, dI)) (ci := 1) (v := .ref (b (23 + P x))) (C := RPa) (T := TPa) (N := 3) hx hb hts inPa hown hK hP (17 + P x) (wd_pa (hp6 x (by omega))) rfl 0 (by decide) (va_Nw.use rfl (hE.1 _ en_115)) (fun _ h9 => h9) rfl dDe_warp_53 ?_
          refine lv_iconst (v := nI 0) hx hb dDe_warp_56 (by decide +kernel) ?_
          refine lv_aload_n hx hb dDe_warp_57 rfl (lv_at hl 0 rfl) ?_
          refine va_get (D := (dC, dI)) (ci := 7) (v := .ref (b 12)) (C := RDe) (T := TDe) (N := 10) hx hb hts inDe hown hK hP 0 rfl rfl 3 (by decide) (hts _ tw_195) (fun _ h9 => h9) rfl dDe_warp_58 ?_
          refine va_getN (D := (dC, dI)) (ci := 2) (v := .ref (b 13)) (C := RBo) (T := TBo) (N := 3) hx hb hts inBo hown hK hP 12 rfl rfl 0 (by decide) (va_Nw.use rfl (hE.1 _ en_131)) (fun _ h9 => h9) rfl dDe_warp_61 ?_
          refine lv_iload_n hx hb dDe_warp_64 rfl (lv_at hl 1 rfl) ?_
          refine rw_ald_q (x := b (17 + P x)) hx hb hK hP 13 2 rfl rfl (if_pos (by omega)) (by omega) (by decide) dDe_warp_65 ?_
          refine va_getN (D := (dC, dI)) (ci := 1) (v := .int (I 3 (P x))) (C := RPa) (T := TPa) (N := 3) hx hb hts inPa hown hK hP (17 + P x) (wd_pa (hp6 x (by omega))) rfl 2 (by decide) (va_Nw.use rfl (hE.1 _ en_121)) (fun _ h9 => h9) rfl dDe_warp_66 ?_
          refine rw_i (y := nI (rw9 x)) ((hr9 x hx1).1) ?_
          refine lv_aload_n hx hb dDe_warp_69 rfl (lv_at hl 0 rfl) ?_
          refine va_get (D := (dC, dI)) (ci := 7) (v := .ref (b 12)) (C := RDe) (T := TDe) (N := 10) hx hb hts inDe hown hK hP 0 rfl rfl 3 (by decide) (hts _ tw_195) (fun _ h9 => h9) rfl dDe_warp_70 ?_
          refine va_getN (D := (dC, dI)) (ci := 2) (v := .ref (b 13)) (C := RBo) (T := TBo) (N := 3) hx hb hts inBo hown hK hP 12 rfl rfl 0 (by decide) (va_Nw.use rfl (hE.1 _ en_131)) (fun _ h9 => h9) rfl dDe_warp_73 ?_
          refine lv_iload_n hx hb dDe_warp_76 rfl (lv_at hl 2 rfl) ?_
          refine rw_ald_q (x := b (17 + P y)) hx hb hK hP 13 2 rfl rfl (if_pos (by omega)) (by omega) (by decide) dDe_warp_77 ?_
          refine ct_d (va_runV (As := [.ref (b (23 + P x)), .int (nI 0), .int (nI (rw9 x)), .ref (b (17 + P y))]) (rest := []) ⟨hx, hb, hml, hown, hts⟩ (kBo_distance l dC dI k b P I D _ (23 + P x) 32 0 (rw9 x) (P y) (rw9 y) (D (10 + P x)) (fun v => (wd_pl (hp6 x (by omega))).trans (by rw [us_o _ _ (by omega)])) (by decide) (by omega) (hp6 y (by omega)) ry.1 rx.2.1 (by omega) ry.2.1 ry.2.2 (fun q hq => by rw [show 4 * 0 + q = q by omega]; exact hl9 x hx1 q hq) (hl9 y hy1)) (cwV 4 hts (gw_V tw_547 tw_548 tw_549 tw_5 tw_550) rfl rfl rfl (by decide +kernel) ⟨Nat.le_of_ble_eq_true rfl, Nat.le_of_ble_eq_true rfl⟩) ⟨ct_blind (ev := ev_N) ev_N.blind, va_recv hK hP (ci := 2) (q0 := 12) rfl rfl, ct_now (ev := ev_N) (fun U _ hW => hE.1.warm hW) hP hK hD⟩ rfl rfl hl.1 rfl (lv_room (Nat.le_of_ble_eq_true rfl)) dDe_warp_78 ⟨Nat.le_of_ble_eq_true rfl, Nat.le_of_ble_eq_true rfl⟩) hD hS hA (fun r1 u1 H locs hw1 hP hD hS => ?_)
          have hw1b : r1 = hw_wa (D (10 + P x)) (D (10 + P y)) (rw9 x) (rw9 y) := hw1.trans (hw_wa_g (fun q hq => congrArg (D (10 + P x)) (by omega)) (fun q hq => rfl) rx.2.1 ry.2.1)
          clear hw1
          subst hw1b
          exact ex_ret (ct_rd hx hb hr hlocks u1 (⟨x, hx1, rfl, y, hy1, rfl, rfl⟩) hP hD hS (Nat.zero_le _) (Nat.zero_le _) dDe_warp_81)
        · rw [← us_id D 8] at hP hD
          exact th_throwN hx hb hln (text := "there is no such pattern") hown hP0 hAe hts hE.2 t3_162_164 (hl.1.trans hml.symm) htab dDe_warp_30 dDe_warp_33 dDe_warp_34 dDe_warp_36 dDe_warp_39 hlocks (D 8) (⟨rfl, rfl, by first | (exact fun z => dj_lo (by omega) c1 z.1) | (exact fun z => dj_hi (by omega) c27 z.2) | (exact fun z => dj_lo (by omega) c16 z.2) | (exact fun z => dj_hi (by omega) (fun y => Int32.not_le.mpr y c12) z.1)⟩) hP hD hS (Nat.le_of_ble_eq_true rfl) (Nat.le_of_ble_eq_true rfl) (Nat.le_of_ble_eq_true rfl) (Nat.le_of_ble_eq_true rfl) (Nat.le_refl _) (Nat.le_refl _)
set_option maxHeartbeats 4000000 in
set_option maxRecDepth 100000 in
theorem kDe_forget (l : Launch) (hln : l.stackTraces = false) (dC : Nat → ClassId) (dI : Nat → Nat → Nat) (k : Nat → ClassId) (b P : Nat → Nat) (I : Nat → Nat → Int32) (D : Nat → Nat → UInt64) (sz : Nat) (k9 : Int32) (np : Nat) (hnp : np ≤ 6) (h6 : I 0 6 = nI np) (hp6 : ∀ j, j < 6 → P j < 6) : ex_Met l yDe_forget wDe_forget ({ frames := 6, cells := 1, slots := 6, locals := 82 }) (va_Pc [.ref (b 0), .int k9] (ct_pre (dC, dI) (de_ty k) ev_D (wd k b P I D) sz)) (va_Qi (fun r (u : (Nat → Nat → Int32) × (Nat → Nat)) => ∃ x, x < np ∧ k9 = nI x ∧ r = I 2 (P x) ∧ u.1 = ui I 0 6 (nI (np - 1)) ∧ ∀ z, u.2 z = if z = np - 1 then P x else if x ≤ z ∧ z < np - 1 then P (z + 1) else P z) (fun u t => ct_at (dC, dI) (va_A (wd k b P I D) sz) ((fun u => wd k b u.2 u.1 D) u) t) (va_A (wd k b P I D) sz)) (ct_X (dC, dI) (va_A (wd k b P I D) sz) (fun E (u : (Nat → Nat → Int32) × (Nat → Nat)) => u = (I, P) ∧ E = th_NS ∧ ¬ ∃ j, j < np ∧ k9 = nI j) (fun u => wd k b u.2 u.1 D)) 1 6 (va_A (wd k b P I D) sz) := by
  refine ex_met (cc := cDe_forget) (maxL := 2) (ret := (some .int)) (by decide) rfl ?_
  intro p e s m args below meth c s₁ B hml htab hv
  obtain ⟨rfl, hsz, hP, hK, hD0, hE⟩ := hv
  have hx := B.exec
  have hb := B.bytes
  have hr := B.returns
  have hts : ∀ w ∈ W0, w.before [.ref (b 0), .int k9].toArray s = true := fun w h => atoms_spec (ws := wDe_forget) B.pre w (List.mem_cons_of_mem _ h)
  have hown : s.vm.findClass RDe = some m.cls := findClass_of_methodNamed B.named
  have hlocks := B.notSynchronized
  subst hsz
  have hP0 := hP
  have hD := hD0.self (sz := s.heap.size)
  generalize hAe : va_A (wd k b P I D) s.heap.size = A at hD ⊢
  have hA : ∀ q : Nat, s.heap.size ≤ q → A q := fun q h => by rw [← hAe]; exact Or.inr h
  have hS : va_S A s.heap s.heap [] := va_S.rf
  have hl := lv_entry ([.ref (b 0), .int k9]) (n := 2) (Nat.le_of_ble_eq_true rfl)
  rw [lg_entry_eq]
  generalize (lg_sl ([.ref (b 0), .int k9]) ++ List.replicate (2 - (lg_sl ([.ref (b 0), .int k9])).length) Slot.unset).toArray = ls at hl ⊢
  have hl : lv_has ls 2 [(0, .ref (b 0)), (1, .int k9)] := hl
  refine lv_iload_n hx hb dDe_forget_0 rfl (lv_at hl 1 rfl) ?_
  refine lv_if_lt (tgt := 15) hx hb dDe_forget_1 (by decide) (fun c1 => ?_) (fun c1 => ?_)
  · exact th_throwN hx hb hln (text := "there is no such pattern") hown hP0 hAe hts hE.2 t3_162_164 (hl.1.trans hml.symm) htab dDe_forget_15 dDe_forget_18 dDe_forget_19 dDe_forget_21 dDe_forget_24 hlocks (I, P) (⟨rfl, rfl, by first | (exact dj_lo (by omega) c1) | (exact dj_hi (by omega) c12)⟩) hP hD hS (Nat.le_of_ble_eq_true rfl) (Nat.le_of_ble_eq_true rfl) (Nat.le_of_ble_eq_true rfl) (Nat.le_of_ble_eq_true rfl) (Nat.le_refl _) (Nat.le_refl _)
  · refine lv_iload_n hx hb dDe_forget_4 rfl (lv_at hl 1 rfl) ?_
    refine lv_aload_n hx hb dDe_forget_5 rfl (lv_at hl 0 rfl) ?_
    refine va_get (D := (dC, dI)) (ci := 7) (v := .ref (b 12)) (C := RDe) (T := TDe) (N := 10) hx hb hts inDe hown hK hP 0 rfl rfl 3 (by decide) (hts _ tw_195) (fun _ h9 => h9) rfl dDe_forget_6 ?_
    refine va_getN (D := (dC, dI)) (ci := 2) (v := .int (I 0 6)) (C := RBo) (T := TBo) (N := 3) hx hb hts inBo hown hK hP 12 rfl rfl 2 (by decide) (va_Nw.use rfl (hE.1 _ en_135)) (fun _ h9 => h9) rfl dDe_forget_9 ?_
    refine rw_i (y := nI np) h6 ?_
    refine lv_icmp_lt (tgt := 25) hx hb dDe_forget_12 (by decide) (fun c12 => ?_) (fun c12 => ?_)
    · obtain ⟨x, hx1, rfl⟩ := dj_in (by omega) c1 c12
      refine lv_aload_n hx hb dDe_forget_25 rfl (lv_at hl 0 rfl) ?_
      refine va_get (D := (dC, dI)) (ci := 7) (v := .ref (b 12)) (C := RDe) (T := TDe) (N := 10) hx hb hts inDe hown hK hP 0 rfl rfl 3 (by decide) (hts _ tw_195) (fun _ h9 => h9) rfl dDe_forget_26 ?_
      refine lv_iload_n hx hb dDe_forget_29 rfl (lv_at hl 1 rfl) ?_
      refine ct_i (va_runV (As := [.int (nI x)]) (rest := []) ⟨hx, hb, hml, hown, hts⟩ (kBo_takeOut l dC dI k b P I D _ x np hnp h6 hx1 hp6) (cwV 1 hts (gw_V tw_536 tw_537 tw_538 tw_5 tw_539) rfl rfl rfl (by decide +kernel) ⟨Nat.le_of_ble_eq_true rfl, Nat.le_of_ble_eq_true rfl⟩) ⟨ct_blind (ev := ev_N) ev_N.blind, va_recv hK hP (ci := 2) (q0 := 12) rfl rfl, ct_now (ev := ev_N) (fun U _ hW => hE.1.warm hW) hP hK hD⟩ rfl rfl hl.1 rfl (lv_room (Nat.le_of_ble_eq_true rfl)) dDe_forget_30 ⟨Nat.le_of_ble_eq_true rfl, Nat.le_of_ble_eq_true rfl⟩) hD hS hA (fun r1 u1 H locs hw1 hP hD hS => ?_)
      obtain ⟨h9, e9⟩ := hw1
      subst h9
      exact ex_ret (ct_ri hx hb hr hlocks (ui I 0 6 (nI (np - 1)), u1) (⟨x, hx1, rfl, rfl, rfl, e9⟩) hP hD hS (Nat.zero_le _) (Nat.zero_le _) dDe_forget_33)
    · exact th_throwN hx hb hln (text := "there is no such pattern") hown hP0 hAe hts hE.2 t3_162_164 (hl.1.trans hml.symm) htab dDe_forget_15 dDe_forget_18 dDe_forget_19 dDe_forget_21 dDe_forget_24 hlocks (I, P) (⟨rfl, rfl, by first | (exact dj_lo (by omega) c1) | (exact dj_hi (by omega) c12)⟩) hP hD hS (Nat.le_of_ble_eq_true rfl) (Nat.le_of_ble_eq_true rfl) (Nat.le_of_ble_eq_true rfl) (Nat.le_of_ble_eq_true rfl) (Nat.le_refl _) (Nat.le_refl _)
set_option maxHeartbeats 4000000 in
set_option maxRecDepth 100000 in
theorem kDe_learn (l : Launch) (hln : l.stackTraces = false) (dC : Nat → ClassId) (dI : Nat → Nat → Nat) (k : Nat → ClassId) (b P : Nat → Nat) (I : Nat → Nat → Int32) (D : Nat → Nat → UInt64) (sz : Nat) (le f9 n9 : Int32) (ns : Nat) (hn : ns ≤ 320) (h4 : I 0 4 = nI ns) (hsm : ∀ i, i < ns → fb_ 1057 (D 1 i)) (hc : ∀ j, j < 32 → D 5 j = hd_C j) (hsn : ∀ j, j < 32 → D 6 j = hd_S j) (hwi : ∀ j, j < 32 → D 7 j = hd_W j) (jd9 : Nat) (hjd : jd9 ≤ hd_nf ns) (h5 : I 0 5 = nI jd9) (hj3 : ∀ q, q < 4 * jd9 → D 3 q = hw_su (D 1) q) (hj4 : ∀ q, q < 4 * jd9 → D 4 q = hw_lv (D 1) 0 q) (np : Nat) (hnp : np ≤ 6) (h6 : I 0 6 = nI np) (hp6 : ∀ j, j < 6 → P j < 6) : ex_Met l yDe_learn wDe_learn ({ frames := 6, cells := 1, slots := 6, locals := 100 }) (va_Pc [.ref (b 0), .int le, .int f9, .int n9] (ct_pre (dC, dI) (de_ty k) ev_D (wd k b P I D) sz)) (va_Qi (fun r (u : (Nat → Nat → Int32) × (Nat → Nat → UInt64)) => (∃ q, 97 ≤ q ∧ q ≤ 122 ∧ le = nI q) ∧ ∃ q, 1 ≤ q ∧ q ≤ 8 ∧ n9 = nI q ∧ ∃ f, f + q ≤ hd_nf ns ∧ f9 = nI f ∧ np < 6 ∧ r = nI (np + 1) ∧ u.1 = ui (ui (ui (ui I 0 5 (nI (hd_nf ns))) 2 (P np) le) 3 (P np) (nI q)) 0 6 (nI (np + 1)) ∧ (∀ z, z < 4 * q → u.2 (10 + P np) z = hw_lv (D 1) f z) ∧ (∀ c, c ≠ 2 → c ≠ 3 → c ≠ 4 → c ≠ 10 + P np → u.2 c = D c) ∧ (∀ q, q < 4 * hd_nf ns → u.2 3 q = hw_su (D 1) q) ∧ (∀ q, q < 4 * hd_nf ns → u.2 4 q = hw_lv (D 1) 0 q)) (fun u t => ct_at (dC, dI) (va_A (wd k b P I D) sz) ((fun u => wd k b P u.1 u.2) u) t) (va_A (wd k b P I D) sz)) (ct_X (dC, dI) (va_A (wd k b P I D) sz) (fun E (u : (Nat → Nat → Int32) × (Nat → Nat → UInt64)) => u = (I, D) ∧ ((E = th_IA ∧ ¬ ((∃ q, 97 ≤ q ∧ q ≤ 122 ∧ le = nI q) ∧ ∃ q, 1 ≤ q ∧ q ≤ 8 ∧ n9 = nI q)) ∨ (E = th_IO ∧ (∃ q, 97 ≤ q ∧ q ≤ 122 ∧ le = nI q) ∧ ∃ q, 1 ≤ q ∧ q ≤ 8 ∧ n9 = nI q ∧ ((¬ ∃ f, f + q ≤ hd_nf ns ∧ f9 = nI f) ∨ np = 6)))) (fun u => wd k b P u.1 u.2)) 1 6 (va_A (wd k b P I D) sz) := by
  refine ex_met (cc := cDe_learn) (maxL := 4) (ret := (some .int)) (by decide) rfl ?_
  intro p e s m args below meth c s₁ B hml htab hv
  obtain ⟨rfl, hsz, hP, hK, hD0, hE⟩ := hv
  have hx := B.exec
  have hb := B.bytes
  have hr := B.returns
  have hts : ∀ w ∈ W0, w.before [.ref (b 0), .int le, .int f9, .int n9].toArray s = true := fun w h => atoms_spec (ws := wDe_learn) B.pre w (List.mem_cons_of_mem _ h)
  have hown : s.vm.findClass RDe = some m.cls := findClass_of_methodNamed B.named
  have hlocks := B.notSynchronized
  subst hsz
  have hP0 := hP
  have hD := hD0.self (sz := s.heap.size)
  generalize hAe : va_A (wd k b P I D) s.heap.size = A at hD ⊢
  have hA : ∀ q : Nat, s.heap.size ≤ q → A q := fun q h => by rw [← hAe]; exact Or.inr h
  have hS : va_S A s.heap s.heap [] := va_S.rf
  have hl := lv_entry ([.ref (b 0), .int le, .int f9, .int n9]) (n := 4) (Nat.le_of_ble_eq_true rfl)
  rw [lg_entry_eq]
  generalize (lg_sl ([.ref (b 0), .int le, .int f9, .int n9]) ++ List.replicate (4 - (lg_sl ([.ref (b 0), .int le, .int f9, .int n9])).length) Slot.unset).toArray = ls at hl ⊢
  have hl : lv_has ls 4 [(0, .ref (b 0)), (1, .int le), (2, .int f9), (3, .int n9)] := hl
  have hnf := nf_le hn
  refine lv_iload_n hx hb dDe_learn_0 rfl (lv_at hl 1 rfl) ?_
  refine lv_bipush (v := nI 97) hx hb dDe_learn_1 (by decide +kernel) ?_
  refine lv_icmp_lt (tgt := 23) hx hb dDe_learn_3 (by decide) (fun c3 => ?_) (fun c3 => ?_)
  · exact th_throw hx hb hln (cls := th_IA) (text := "letters are 97 to 122, a pattern has 1 to 8 rows") hown hP0 hAe hts hE.2 (by decide +kernel) t3_67_154 th_IA_w (hl.1.trans hml.symm) htab dDe_learn_23 dDe_learn_26 dDe_learn_27 dDe_learn_29 dDe_learn_32 hlocks (I, D) (⟨rfl, Or.inl ⟨rfl, by first | (exact fun z => dn_lo (by decide) (by decide) c3 z.1) | (exact fun z => dn_hi (by decide) c20 z.2) | (exact fun z => dn_lo (by decide) (by decide) c14 z.2) | (exact fun z => dn_hi (by decide) (Int32.not_le.mpr c9) z.1)⟩⟩) hP hD hS (Nat.le_of_ble_eq_true rfl) (Nat.le_of_ble_eq_true rfl) (Nat.le_of_ble_eq_true rfl) (Nat.le_of_ble_eq_true rfl) (Nat.le_refl _) (Nat.le_refl _)
  · refine lv_iload_n hx hb dDe_learn_6 rfl (lv_at hl 1 rfl) ?_
    refine lv_bipush (v := nI 122) hx hb dDe_learn_7 (by decide +kernel) ?_
    refine lv_icmp_gt (tgt := 23) hx hb dDe_learn_9 (by decide) (fun c9 => ?_) (fun c9 => ?_)
    · exact th_throw hx hb hln (cls := th_IA) (text := "letters are 97 to 122, a pattern has 1 to 8 rows") hown hP0 hAe hts hE.2 (by decide +kernel) t3_67_154 th_IA_w (hl.1.trans hml.symm) htab dDe_learn_23 dDe_learn_26 dDe_learn_27 dDe_learn_29 dDe_learn_32 hlocks (I, D) (⟨rfl, Or.inl ⟨rfl, by first | (exact fun z => dn_lo (by decide) (by decide) c3 z.1) | (exact fun z => dn_hi (by decide) c20 z.2) | (exact fun z => dn_lo (by decide) (by decide) c14 z.2) | (exact fun z => dn_hi (by decide) (Int32.not_le.mpr c9) z.1)⟩⟩) hP hD hS (Nat.le_of_ble_eq_true rfl) (Nat.le_of_ble_eq_true rfl) (Nat.le_of_ble_eq_true rfl) (Nat.le_of_ble_eq_true rfl) (Nat.le_refl _) (Nat.le_refl _)
    · refine lv_iload_n hx hb dDe_learn_12 rfl (lv_at hl 3 rfl) ?_
      refine lv_iconst (v := nI 1) hx hb dDe_learn_13 (by decide +kernel) ?_
      refine lv_icmp_lt (tgt := 23) hx hb dDe_learn_14 (by decide) (fun c14 => ?_) (fun c14 => ?_)
      · exact th_throw hx hb hln (cls := th_IA) (text := "letters are 97 to 122, a pattern has 1 to 8 rows") hown hP0 hAe hts hE.2 (by decide +kernel) t3_67_154 th_IA_w (hl.1.trans hml.symm) htab dDe_learn_23 dDe_learn_26 dDe_learn_27 dDe_learn_29 dDe_learn_32 hlocks (I, D) (⟨rfl, Or.inl ⟨rfl, by first | (exact fun z => dn_lo (by decide) (by decide) c3 z.1) | (exact fun z => dn_hi (by decide) c20 z.2) | (exact fun z => dn_lo (by decide) (by decide) c14 z.2) | (exact fun z => dn_hi (by decide) (Int32.not_le.mpr c9) z.1)⟩⟩) hP hD hS (Nat.le_of_ble_eq_true rfl) (Nat.le_of_ble_eq_true rfl) (Nat.le_of_ble_eq_true rfl) (Nat.le_of_ble_eq_true rfl) (Nat.le_refl _) (Nat.le_refl _)
      · refine lv_iload_n hx hb dDe_learn_17 rfl (lv_at hl 3 rfl) ?_
        refine lv_bipush (v := nI 8) hx hb dDe_learn_18 (by decide +kernel) ?_
        refine lv_icmp_le (tgt := 33) hx hb dDe_learn_20 (by decide) (fun c20 => ?_) (fun c20 => ?_)
        · have hL := dn_in (by decide) (by decide) c3 (Int32.not_lt.mp c9)
          obtain ⟨q, q1, q2, rfl⟩ := dn_in (by decide) (by decide) c14 c20
          refine lv_iload_n hx hb dDe_learn_33 rfl (lv_at hl 2 rfl) ?_
          refine lv_if_lt (tgt := 62) hx hb dDe_learn_34 (by decide) (fun c34 => ?_) (fun c34 => ?_)
          · exact th_throw hx hb hln (cls := th_IO) (text := "a frame is not there, or there are 6 patterns") hown hP0 hAe hts hE.2 (by decide +kernel) t3_77_157 th_IO_w (hl.1.trans hml.symm) htab dDe_learn_62 dDe_learn_65 dDe_learn_66 dDe_learn_68 dDe_learn_71 hlocks (I, D) (⟨rfl, Or.inr ⟨rfl, hL, q, q1, q2, rfl, by first | (exact Or.inr c59) | (exact Or.inl (fun z => (ln_ni hnf q2 z).1 c34)) | (exact Or.inl (fun z => (ln_ni hnf q2 z).2 c47))⟩⟩) hP hD hS (Nat.le_of_ble_eq_true rfl) (Nat.le_of_ble_eq_true rfl) (Nat.le_of_ble_eq_true rfl) (Nat.le_of_ble_eq_true rfl) (Nat.le_refl _) (Nat.le_refl _)
          · refine lv_iload_n hx hb dDe_learn_37 rfl (lv_at hl 2 rfl) ?_
            refine lv_aload_n hx hb dDe_learn_38 rfl (lv_at hl 0 rfl) ?_
            refine va_get (D := (dC, dI)) (ci := 7) (v := .ref (b 7)) (C := RDe) (T := TDe) (N := 10) hx hb hts inDe hown hK hP 0 rfl rfl 2 (by decide) (hts _ tw_194) (fun _ h9 => h9) rfl dDe_learn_39 ?_
            refine ct_i (va_runV (As := []) (rest := [.int f9]) ⟨hx, hb, hml, hown, hts⟩ (kSo_frames l dC dI k b P I D _ ns hn h4) (cwV 0 hts (gw_V tw_446 tw_447 tw_448 tw_4 tw_449) rfl rfl rfl (by decide +kernel) ⟨Nat.le_of_ble_eq_true rfl, Nat.le_of_ble_eq_true rfl⟩) ⟨ct_blind (ev := (fun _ => True)) (fun _ _ _ _ h => h), va_recv hK hP (ci := 3) (q0 := 7) rfl rfl, ct_now (ev := (fun _ => True)) (fun _ _ _ => trivial) hP hK hD⟩ rfl rfl hl.1 rfl (lv_room (Nat.le_of_ble_eq_true rfl)) dDe_learn_42 ⟨Nat.le_of_ble_eq_true rfl, Nat.le_of_ble_eq_true rfl⟩) hD hS hA (fun r1 u1 H locs hw1 hP hD hS => ?_)
            subst hw1
            have hnf := nf_le hn
            refine lv_iload_n hx hb dDe_learn_45 rfl (lv_at hl 3 rfl) ?_
            refine lv_isub hx hb dDe_learn_46 ?_
            refine lv_icmp_gt (tgt := 62) hx hb dDe_learn_47 (by decide) (fun c47 => ?_) (fun c47 => ?_)
            · exact th_throw hx hb hln (cls := th_IO) (text := "a frame is not there, or there are 6 patterns") hown hP0 hAe hts hE.2 (by decide +kernel) t3_77_157 th_IO_w (hl.1.trans hml.symm) htab dDe_learn_62 dDe_learn_65 dDe_learn_66 dDe_learn_68 dDe_learn_71 hlocks (I, D) (⟨rfl, Or.inr ⟨rfl, hL, q, q1, q2, rfl, by first | (exact Or.inr c59) | (exact Or.inl (fun z => (ln_ni hnf q2 z).1 c34)) | (exact Or.inl (fun z => (ln_ni hnf q2 z).2 c47))⟩⟩) hP hD hS (Nat.le_of_ble_eq_true rfl) (Nat.le_of_ble_eq_true rfl) (Nat.le_of_ble_eq_true rfl) (Nat.le_of_ble_eq_true rfl) (Nat.le_refl _) (Nat.le_refl _)
            · obtain ⟨f, hf, rfl⟩ := ln_in hnf q2 c34 c47
              refine lv_aload_n hx hb dDe_learn_50 rfl (lv_at hl 0 rfl) ?_
              refine va_get (D := (dC, dI)) (ci := 7) (v := .ref (b 12)) (C := RDe) (T := TDe) (N := 10) hx hb hts inDe hown hK hP 0 rfl rfl 3 (by decide) (hts _ tw_195) (fun _ h9 => h9) rfl dDe_learn_51 ?_
              refine va_getN (D := (dC, dI)) (ci := 2) (v := .int (I 0 6)) (C := RBo) (T := TBo) (N := 3) hx hb hts inBo hown hK hP 12 rfl rfl 2 (by decide) (va_Nw.use rfl (hE.1 _ en_135)) (fun _ h9 => h9) rfl dDe_learn_54 ?_
              refine rw_i (y := nI np) h6 ?_
              refine lv_bipush (v := nI 6) hx hb dDe_learn_57 (by decide +kernel) ?_
              refine lv_icmp_ne (tgt := 72) hx hb dDe_learn_59 (by decide) (fun c59 => ?_) (fun c59 => ?_)
              · have c59 : ¬ np = 6 := fun q9 => c59 (show nI np = nI 6 from (nI_eq (a := np) (b := 6) (by omega) (by omega)).mpr q9)
                refine lv_aload_n hx hb dDe_learn_72 rfl (lv_at hl 0 rfl) ?_
                refine va_get (D := (dC, dI)) (ci := 7) (v := .ref (b 7)) (C := RDe) (T := TDe) (N := 10) hx hb hts inDe hown hK hP 0 rfl rfl 2 (by decide) (hts _ tw_194) (fun _ h9 => h9) rfl dDe_learn_73 ?_
                refine ct_v (va_runV (As := []) (rest := []) ⟨hx, hb, hml, hown, hts⟩ (kSo_judge l dC dI k b P I D _ ns hn h4 hsm hc hsn hwi jd9 hjd h5 hj3 hj4) (cwV 0 hts (gw_V tw_469 tw_470 tw_471 tw_4 tw_472) rfl rfl rfl (by decide +kernel) ⟨Nat.le_of_ble_eq_true rfl, Nat.le_of_ble_eq_true rfl⟩) ⟨ct_blind (ev := ev_N) ev_N.blind, va_recv hK hP (ci := 3) (q0 := 7) rfl rfl, ct_now (ev := ev_N) (fun U _ hW => hE.1.warm hW) hP hK hD⟩ rfl rfl hl.1 rfl (lv_room (Nat.le_of_ble_eq_true rfl)) dDe_learn_76 ⟨Nat.le_of_ble_eq_true rfl, Nat.le_of_ble_eq_true rfl⟩) hD hS hA (fun u2 H locs hw2 hP hD hS => ?_)
                obtain ⟨hE1, hE3, hE4⟩ := hw2
                obtain ⟨I9, eI9⟩ : ∃ z, z = ui I 0 5 (nI (hd_nf ns)) := ⟨_, rfl⟩
                rw [← eI9] at hP hD
                refine lv_aload_n hx hb dDe_learn_79 rfl (lv_at hl 0 rfl) ?_
                refine va_get (D := (dC, dI)) (ci := 7) (v := .ref (b 12)) (C := RDe) (T := TDe) (N := 10) hx hb hts inDe hown hK hP 0 rfl rfl 3 (by decide) (hts _ tw_195) (fun _ h9 => h9) rfl dDe_learn_80 ?_
                refine lv_iload_n hx hb dDe_learn_83 rfl (lv_at hl 1 rfl) ?_
                refine lv_aload_n hx hb dDe_learn_84 rfl (lv_at hl 0 rfl) ?_
                refine va_get (D := (dC, dI)) (ci := 7) (v := .ref (b 7)) (C := RDe) (T := TDe) (N := 10) hx hb hts inDe hown hK hP 0 rfl rfl 2 (by decide) (hts _ tw_194) (fun _ h9 => h9) rfl dDe_learn_85 ?_
                refine va_getN (D := (dC, dI)) (ci := 3) (v := .ref (b 11)) (C := RSo) (T := TSo) (N := 7) hx hb hts inSo hown hK hP 7 rfl rfl 4 (by decide) (va_Nw.use rfl (hE.1 _ en_81)) (fun _ h9 => h9) rfl dDe_learn_88 ?_
                refine lv_iload_n hx hb dDe_learn_91 rfl (lv_at hl 2 rfl) ?_
                refine lv_iload_n hx hb dDe_learn_92 rfl (lv_at hl 3 rfl) ?_
                refine ct_v (va_runV (As := [.int le, .ref (b 11), .int (nI f), .int (nI q)]) (rest := []) ⟨hx, hb, hml, hown, hts⟩ (kBo_append l dC dI k b P I9 u2 _ le f q np (by omega) (by rw [eI9, ui_n _ _ _ (by decide)]; exact h6) (hp6 np (by omega)) (by omega) q2) (cwV 4 hts (gw_V tw_505 tw_506 tw_507 tw_5 tw_508) rfl rfl rfl (by decide +kernel) ⟨Nat.le_of_ble_eq_true rfl, Nat.le_of_ble_eq_true rfl⟩) ⟨ct_blind (ev := ev_N) ev_N.blind, va_recv hK hP (ci := 2) (q0 := 12) rfl rfl, ct_now (ev := ev_N) (fun U _ hW => hE.1.warm hW) hP hK hD⟩ rfl rfl hl.1 rfl (lv_room (Nat.le_of_ble_eq_true rfl)) dDe_learn_93 ⟨Nat.le_of_ble_eq_true rfl, Nat.le_of_ble_eq_true rfl⟩) hD hS hA (fun u3 H locs hw3 hP hD hS => ?_)
                obtain ⟨e8, e9⟩ := hw3
                refine lv_aload_n hx hb dDe_learn_96 rfl (lv_at hl 0 rfl) ?_
                refine va_get (D := (dC, dI)) (ci := 7) (v := .ref (b 12)) (C := RDe) (T := TDe) (N := 10) hx hb hts inDe hown hK hP 0 rfl rfl 3 (by decide) (hts _ tw_195) (fun _ h9 => h9) rfl dDe_learn_97 ?_
                refine va_getN (D := (dC, dI)) (ci := 2) (v := .int (u3.1 0 6)) (C := RBo) (T := TBo) (N := 3) hx hb hts inBo hown hK hP 12 rfl rfl 2 (by decide) (va_Nw.use rfl (hE.1 _ en_135)) (fun _ h9 => h9) rfl dDe_learn_100 ?_
                refine rw_i (y := nI (np + 1)) (by rw [e8, ui_s]) ?_
                obtain ⟨E8, eE8⟩ : ∃ z, z = us u2 (10 + P np) u3.2 := ⟨_, rfl⟩
                rw [← eE8] at hP hD
                have o1 : ∀ z, z < 4 * q → E8 (10 + P np) z = hw_lv (D 1) f z := fun z hz => by rw [eE8, us_c, e9 z hz, hE4 _ (by omega)]; exact hw_lv_s _ _ _
                have o2 : ∀ c, c ≠ 2 → c ≠ 3 → c ≠ 4 → c ≠ 10 + P np → E8 c = D c := fun c z2 z3 z4 z10 => by rw [eE8, us_o _ _ z10]; exact hE1 c z2 z3 z4
                have o3 : ∀ q, q < 4 * hd_nf ns → E8 3 q = hw_su (D 1) q := fun q hq => by rw [eE8, us_o _ _ (by omega)]; exact hE3 q hq
                have o4 : ∀ q, q < 4 * hd_nf ns → E8 4 q = hw_lv (D 1) 0 q := fun q hq => by rw [eE8, us_o _ _ (by omega)]; exact hE4 q hq
                exact ex_ret (ct_ri hx hb hr hlocks (u3.1, E8) (⟨hL, q, q1, q2, rfl, f, hf, rfl, by omega, rfl, by rw [e8, eI9], o1, o2, o3, o4⟩) hP hD hS (Nat.zero_le _) (Nat.zero_le _) dDe_learn_103)
              · have c59 : np = 6 := (nI_eq (a := np) (b := 6) (by omega) (by omega)).mp (show nI np = nI 6 from c59)
                exact th_throw hx hb hln (cls := th_IO) (text := "a frame is not there, or there are 6 patterns") hown hP0 hAe hts hE.2 (by decide +kernel) t3_77_157 th_IO_w (hl.1.trans hml.symm) htab dDe_learn_62 dDe_learn_65 dDe_learn_66 dDe_learn_68 dDe_learn_71 hlocks (I, D) (⟨rfl, Or.inr ⟨rfl, hL, q, q1, q2, rfl, by first | (exact Or.inr c59) | (exact Or.inl (fun z => (ln_ni hnf q2 z).1 c34)) | (exact Or.inl (fun z => (ln_ni hnf q2 z).2 c47))⟩⟩) hP hD hS (Nat.le_of_ble_eq_true rfl) (Nat.le_of_ble_eq_true rfl) (Nat.le_of_ble_eq_true rfl) (Nat.le_of_ble_eq_true rfl) (Nat.le_refl _) (Nat.le_refl _)
        · exact th_throw hx hb hln (cls := th_IA) (text := "letters are 97 to 122, a pattern has 1 to 8 rows") hown hP0 hAe hts hE.2 (by decide +kernel) t3_67_154 th_IA_w (hl.1.trans hml.symm) htab dDe_learn_23 dDe_learn_26 dDe_learn_27 dDe_learn_29 dDe_learn_32 hlocks (I, D) (⟨rfl, Or.inl ⟨rfl, by first | (exact fun z => dn_lo (by decide) (by decide) c3 z.1) | (exact fun z => dn_hi (by decide) c20 z.2) | (exact fun z => dn_lo (by decide) (by decide) c14 z.2) | (exact fun z => dn_hi (by decide) (Int32.not_le.mpr c9) z.1)⟩⟩) hP hD hS (Nat.le_of_ble_eq_true rfl) (Nat.le_of_ble_eq_true rfl) (Nat.le_of_ble_eq_true rfl) (Nat.le_of_ble_eq_true rfl) (Nat.le_refl _) (Nat.le_refl _)
