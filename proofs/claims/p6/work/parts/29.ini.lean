set_option maxHeartbeats 4000000 in
set_option maxRecDepth 100000 in
theorem kCi_series (l : Launch) (dC : Nat → ClassId) (dI : Nat → Nat → Nat) (k : Nat → ClassId) (sz : Nat) (y : UInt64) (o : Nat) (ho : o < 2) (hy : fb_ 1028 y) (hs : ∀ q, q < 13 → fb_ 1030 (hd_sr o y q)) : Met l yCi_series wCi_series ({ frames := 0, cells := 0, slots := 0, locals := 0 }) (va_Pc [.double y, .int (nI (24 + o))] (ct_pre (dC, dI) (de_ty k) (fun _ => True) ([]) sz)) (va_Qd (fun r (_ : Unit) => r = hd_sr o y 12) (fun u t => ct_at (dC, dI) (va_A ([]) sz) ((fun (_ : Unit) => []) u) t) (va_A ([]) sz)) 0 0 (va_A ([]) sz) := by
  refine Met.ofW (cc := cCi_series) (maxL := 6) (ret := (some .double)) (by decide) rfl ?_
  intro p e s m args below meth c s₁ B hml hv
  obtain ⟨rfl, hsz, hP, hK, hD0, hE⟩ := hv
  have hx := B.exec
  have hb := B.bytes
  have hr := B.returns
  have hts : ∀ w ∈ W0, w.before [.double y, .int (nI (24 + o))].toArray s = true := fun w h => atoms_spec (ws := wCi_series) B.pre w (List.mem_cons_of_mem _ h)
  have hown : s.vm.findClass RCi = some m.cls := findClass_of_methodNamed B.named
  have hlocks := B.notSynchronized
  have hin : meth.name = "series" := (name_of_methodNamed B.named B.method).1
  subst hsz
  have hD := hD0.self (sz := s.heap.size)
  generalize hAe : va_A ([]) s.heap.size = A at hD ⊢
  have hA : ∀ q : Nat, s.heap.size ≤ q → A q := fun q h => by rw [← hAe]; exact Or.inr h
  have hS : va_S A s.heap s.heap [] := va_S.rf
  have hl := lv_entry ([.double y, .int (nI (24 + o))]) (n := 6) (Nat.le_of_ble_eq_true rfl)
  rw [lg_entry_eq]
  generalize (lg_sl ([.double y, .int (nI (24 + o))]) ++ List.replicate (6 - (lg_sl ([.double y, .int (nI (24 + o))])).length) Slot.unset).toArray = ls at hl ⊢
  have hl : lv_has ls 6 [(0, .double y), (2, .int (nI (24 + o)))] := hl
  refine lp_q (fun Q9 hQ9 => ?_)
  refine lv_dconst1 hx hb dCi_series_0 ?_
  refine rw_d (y := hd_1) rfl ?_
  refine lv_dstore_n (lv' := [(3, .double hd_1), (0, .double y), (2, .int (nI (24 + o)))]) hx hb dCi_series_1 rfl hl (by decide) rfl (fun ls hl => ?_)
  refine lv_iload_n hx hb dCi_series_2 rfl (lv_at hl 2 rfl) ?_
  refine lv_istore (lv' := [(5, .int (nI (24 + o))), (3, .double hd_1), (0, .double y), (2, .int (nI (24 + o)))]) hx hb dCi_series_3 hl (by decide) rfl (fun ls hl => ?_)
  have L5 : ∀ (n5 : Nat) (q : Nat), 12 - q < n5 → q ≤ 12 → ∀ (H : Heap) (locs : List Loc), va_P (dC, dI) vwCl ([]) H → va_D A ([]) → va_S A s.heap H locs → ∀ ls : Array Slot, lv_has ls 6 [(0, .double y), (3, .double (hd_sr o y q)), (5, .int (nI (24 - 2 * q + o)))] → W p l e (headSpec wCi_series ({ frames := 0, cells := 0, slots := 0, locals := 0 })).room s m [.double y, .int (nI (24 + o))].toArray below meth c H locs 0 0 Q9 (F0 m 5 ls []) := by
    intro n5
    induction n5 with
    | zero => intro q hm; exact absurd hm (Nat.not_lt_zero _)
    | succ n5 ih5 =>
      intro q hm5 hq H locs hP hD hS ls hl
      refine lv_iload hx hb dCi_series_5 (lv_at hl 2 rfl) ?_
      refine lv_iconst (v := nI 2) hx hb dCi_series_7 (by decide +kernel) ?_
      refine lv_icmp_lt (tgt := 32) hx hb dCi_series_8 (by decide) (fun c8 => ?_) (fun c8 => ?_)
      · have c8 : (24 - 2 * q + o) < 2 := (nI_ltI (a := (24 - 2 * q + o)) (b := 2) (by omega) (by omega)).mp (show nI (24 - 2 * q + o) < nI 2 from c8)
        obtain rfl : q = 12 := by omega
        refine lv_dload_n hx hb dCi_series_32 rfl (lv_at hl 1 rfl) ?_
        rw [hQ9]
        exact ct_rd hx hb hr hlocks () rfl hP hD hS (Nat.le_refl _) (Nat.le_refl _) dCi_series_33
      · have c8 : ¬ (24 - 2 * q + o) < 2 := fun q9 => c8 (show nI (24 - 2 * q + o) < nI 2 from (nI_ltI (a := (24 - 2 * q + o)) (b := 2) (by omega) (by omega)).mpr q9)
        refine lv_dconst1 hx hb dCi_series_11 ?_
        refine rw_d (y := hd_1) rfl ?_
        refine lv_dload_n hx hb dCi_series_12 rfl (lv_at hl 0 rfl) ?_
        refine lv_dload_n hx hb dCi_series_13 rfl (lv_at hl 1 rfl) ?_
        refine lv_dmul hx hb dCi_series_14 (fb_n (fb_mul hy (hs q (by omega)) (by decide) (by decide)) (by decide)) ?_
        refine lv_iload hx hb dCi_series_15 (lv_at hl 2 rfl) ?_
        refine lv_iload hx hb dCi_series_17 (lv_at hl 2 rfl) ?_
        refine lv_iconst (v := nI 1) hx hb dCi_series_19 (by decide +kernel) ?_
        refine lv_isub hx hb dCi_series_20 ?_
        refine rw_i (y := nI ((24 - 2 * q + o) - 1)) (pk_sub (by omega)) ?_
        refine lv_imul hx hb dCi_series_21 ?_
        refine rw_i (y := nI ((24 - 2 * q + o) * ((24 - 2 * q + o) - 1))) (pk_mul _ _) ?_
        refine lv_i2d hx hb dCi_series_22 ?_
        refine lv_ddiv hx hb dCi_series_23 (fb_n (fb_div (fb_mul hy (hs q (by omega)) (by decide) (by decide)) (hi_j q (by omega) o ho) (fb_mono (fb_i2d _) (by decide)) (by decide) (by decide)) (by decide)) ?_
        refine lv_dsub hx hb dCi_series_24 (fb_n (hs (q + 1) (by omega)) (by decide)) ?_
        refine rw_d (y := hd_sr o y (q + 1)) rfl ?_
        refine lv_dstore_n (lv' := [(3, .double (hd_sr o y (q + 1))), (0, .double y), (5, .int (nI (24 - 2 * q + o)))]) hx hb dCi_series_25 rfl hl (by decide) rfl (fun ls hl => ?_)
        refine lv_iinc (v := nI (24 - 2 * (q + 1) + o)) (lv' := [(5, .int (nI (24 - 2 * (q + 1) + o))), (3, .double (hd_sr o y (q + 1))), (0, .double y)]) hx hb dCi_series_26 hl (k := 2) rfl ((rw_dec2 (by omega)).trans (congrArg nI (by omega))) (by decide) rfl (fun ls hl => ?_)
        refine lv_goto (tgt := 5) hx hb dCi_series_29 (by decide) ?_
        exact ih5 (q + 1) (by omega) (by omega) _ _ hP hD hS ls (lv_sub hl [2, 1, 0] rfl)
  exact L5 _ 0 (Nat.lt_succ_self _) (by omega) _ _ hP hD hS ls (lv_sub hl [2, 1, 0] rfl)
set_option maxHeartbeats 4000000 in
set_option maxRecDepth 100000 in
theorem kCi_init (l : Launch) (dC : Nat → ClassId) (dI : Nat → Nat → Nat) (k : Nat → ClassId) (sz : Nat) (h0 : Nat) : Met l yCi_init wCi_init ({ frames := 1, cells := 3, slots := 96, locals := 25 }) (va_Pc [.ref h0] (ct_pre (dC, dI) (de_ty k) (fun _ => True) ([(h0, .inr (0, [.null, .null, .null]))]) sz)) (va_Qv (fun (u : (Nat → Nat) × (Nat → Nat → UInt64)) => ∀ j, j < 32 → u.2 5 j = hd_C j ∧ u.2 6 j = hd_S j ∧ u.2 7 j = hd_W j) (fun u t => ct_at (dC, dI) (va_A ([(h0, .inr (0, [.null, .null, .null]))]) sz) ((fun (u : (Nat → Nat) × (Nat → Nat → UInt64)) => [(h0, .inr (0, [.ref (u.1 1), .ref (u.1 2), .ref (u.1 3)])), (u.1 1, .inl (k 1, 32, wd_d (u.2 5))), (u.1 2, .inl (k 1, 32, wd_d (u.2 6))), (u.1 3, .inl (k 1, 32, wd_d (u.2 7)))]) u) t) (va_A ([(h0, .inr (0, [.null, .null, .null]))]) sz)) 3 96 (va_A ([(h0, .inr (0, [.null, .null, .null]))]) sz) := by
  refine Met.ofW (cc := cCi_init) (maxL := 4) (ret := none) (by decide) rfl ?_
  intro p e s m args below meth c s₁ B hml hv
  obtain ⟨rfl, hsz, hP, hK, hD0, hE⟩ := hv
  have hx := B.exec
  have hb := B.bytes
  have hr := B.returns
  have hts : ∀ w ∈ W0, w.before [.ref h0].toArray s = true := fun w h => atoms_spec (ws := wCi_init) B.pre w (List.mem_cons_of_mem _ h)
  have hown : s.vm.findClass RCi = some m.cls := findClass_of_methodNamed B.named
  have hlocks := B.notSynchronized
  have hin : meth.name = "<init>" := (name_of_methodNamed B.named B.method).1
  subst hsz
  have hD := hD0.self (sz := s.heap.size)
  generalize hAe : va_A ([(h0, .inr (0, [.null, .null, .null]))]) s.heap.size = A at hD ⊢
  have hA : ∀ q : Nat, s.heap.size ≤ q → A q := fun q h => by rw [← hAe]; exact Or.inr h
  have hS : va_S A s.heap s.heap [] := va_S.rf
  have hl := lv_entry ([.ref h0]) (n := 4) (Nat.le_of_ble_eq_true rfl)
  rw [lg_entry_eq]
  generalize (lg_sl ([.ref h0]) ++ List.replicate (4 - (lg_sl ([.ref h0])).length) Slot.unset).toArray = ls at hl ⊢
  have hl : lv_has ls 4 [(0, .ref h0)] := hl
  refine lp_q (fun Q9 hQ9 => ?_)
  refine lv_aload_n hx hb dCi_init_0 rfl (lv_at hl 0 rfl) ?_
  refine W.objInit hx hb hown (hts _ tw_47) (hts _ tw_25) (hts _ tw_26) rfl (by rw [hml]; exact hl.1) rfl dCi_init_1 (Nat.le_of_ble_eq_true rfl) (Nat.le_of_ble_eq_true rfl) ?_
  refine W.eq (g2 := F0 m 4 ls []) rfl ?_
  refine lv_aload_n hx hb dCi_init_4 rfl (lv_at hl 0 rfl) ?_
  refine lv_bipush (v := nI 32) hx hb dCi_init_5 (by decide +kernel) ?_
  refine rn_newa (atype := .double) (a0 := (32, wd_d (fun _ => 0))) (N' := 32) (kA := k 1) hx hb (hts _ tw_67) (ty := .double) rfl hK hP hD hS hA 1 rfl (fun _ h9 => h9) (fun _ => rfl) (by decide +kernel) (by decide +kernel) (by decide) (show 0 + 1 ≤ 3 by decide) (show 0 + 32 ≤ 96 by decide) dCi_init_7 (fun q1 H hP hD hS => ?_)
  have hP : va_P (dC, dI) vwCl [(h0, .inr (0, [.null, .null, .null])), (q1, .inl (k 1, 32, wd_d (fun _ => 0)))] H := hP
  have hD : va_D A [(h0, .inr (0, [.null, .null, .null])), (q1, .inl (k 1, 32, wd_d (fun _ => 0)))] := hD
  refine W.widen (k := 1) (n := 32) (by omega) (by omega) ?_
  refine va_putF (D := (dC, dI)) (ci := 0) (fs := [.null, .null, .null]) (v := .ref q1) (ty := .array .double) (C := RCi) (T := TCi) (N := 3) hx hb hts inCi tyCi tyCi_ok nmCi hown hK hP hD hS 0 rfl rfl 0 (by decide) (hts _ tw_53) (fun _ h9 => h9) rfl hin rfl (by decide +kernel) rfl rfl (Nat.le_of_ble_eq_true rfl) dCi_init_9 (fun H locs hP hD hS => ?_)
  have hP : va_P (dC, dI) vwCl [(h0, .inr (0, [.ref q1, .null, .null])), (q1, .inl (k 1, 32, wd_d (fun _ => 0)))] H := hP
  have hD : va_D A [(h0, .inr (0, [.ref q1, .null, .null])), (q1, .inl (k 1, 32, wd_d (fun _ => 0)))] := hD
  refine lv_aload_n hx hb dCi_init_12 rfl (lv_at hl 0 rfl) ?_
  refine lv_bipush (v := nI 32) hx hb dCi_init_13 (by decide +kernel) ?_
  refine rn_newa (atype := .double) (a0 := (32, wd_d (fun _ => 0))) (N' := 32) (kA := k 1) hx hb (hts _ tw_67) (ty := .double) rfl hK hP hD hS hA 1 rfl (fun _ h9 => h9) (fun _ => rfl) (by decide +kernel) (by decide +kernel) (by decide) (show 1 + 1 ≤ 3 by decide) (show 32 + 32 ≤ 96 by decide) dCi_init_15 (fun q2 H hP hD hS => ?_)
  have hP : va_P (dC, dI) vwCl [(h0, .inr (0, [.ref q1, .null, .null])), (q1, .inl (k 1, 32, wd_d (fun _ => 0))), (q2, .inl (k 1, 32, wd_d (fun _ => 0)))] H := hP
  have hD : va_D A [(h0, .inr (0, [.ref q1, .null, .null])), (q1, .inl (k 1, 32, wd_d (fun _ => 0))), (q2, .inl (k 1, 32, wd_d (fun _ => 0)))] := hD
  refine W.widen (k := 2) (n := 64) (by omega) (by omega) ?_
  refine va_putF (D := (dC, dI)) (ci := 0) (fs := [.ref q1, .null, .null]) (v := .ref q2) (ty := .array .double) (C := RCi) (T := TCi) (N := 3) hx hb hts inCi tyCi tyCi_ok nmCi hown hK hP hD hS 0 rfl rfl 1 (by decide) (hts _ tw_56) (fun _ h9 => h9) rfl hin rfl (by decide +kernel) rfl rfl (Nat.le_of_ble_eq_true rfl) dCi_init_17 (fun H locs hP hD hS => ?_)
  have hP : va_P (dC, dI) vwCl [(h0, .inr (0, [.ref q1, .ref q2, .null])), (q1, .inl (k 1, 32, wd_d (fun _ => 0))), (q2, .inl (k 1, 32, wd_d (fun _ => 0)))] H := hP
  have hD : va_D A [(h0, .inr (0, [.ref q1, .ref q2, .null])), (q1, .inl (k 1, 32, wd_d (fun _ => 0))), (q2, .inl (k 1, 32, wd_d (fun _ => 0)))] := hD
  refine lv_aload_n hx hb dCi_init_20 rfl (lv_at hl 0 rfl) ?_
  refine lv_bipush (v := nI 32) hx hb dCi_init_21 (by decide +kernel) ?_
  refine rn_newa (atype := .double) (a0 := (32, wd_d (fun _ => 0))) (N' := 32) (kA := k 1) hx hb (hts _ tw_67) (ty := .double) rfl hK hP hD hS hA 1 rfl (fun _ h9 => h9) (fun _ => rfl) (by decide +kernel) (by decide +kernel) (by decide) (show 2 + 1 ≤ 3 by decide) (show 64 + 32 ≤ 96 by decide) dCi_init_23 (fun q3 H hP hD hS => ?_)
  have hP : va_P (dC, dI) vwCl [(h0, .inr (0, [.ref q1, .ref q2, .null])), (q1, .inl (k 1, 32, wd_d (fun _ => 0))), (q2, .inl (k 1, 32, wd_d (fun _ => 0))), (q3, .inl (k 1, 32, wd_d (fun _ => 0)))] H := hP
  have hD : va_D A [(h0, .inr (0, [.ref q1, .ref q2, .null])), (q1, .inl (k 1, 32, wd_d (fun _ => 0))), (q2, .inl (k 1, 32, wd_d (fun _ => 0))), (q3, .inl (k 1, 32, wd_d (fun _ => 0)))] := hD
  refine W.widen (k := 3) (n := 96) (by omega) (by omega) ?_
  refine va_putF (D := (dC, dI)) (ci := 0) (fs := [.ref q1, .ref q2, .null]) (v := .ref q3) (ty := .array .double) (C := RCi) (T := TCi) (N := 3) hx hb hts inCi tyCi tyCi_ok nmCi hown hK hP hD hS 0 rfl rfl 2 (by decide) (hts _ tw_58) (fun _ h9 => h9) rfl hin rfl (by decide +kernel) rfl rfl (Nat.le_of_ble_eq_true rfl) dCi_init_25 (fun H locs hP hD hS => ?_)
  have hP : va_P (dC, dI) vwCl [(h0, .inr (0, [.ref q1, .ref q2, .ref q3])), (q1, .inl (k 1, 32, wd_d (fun _ => 0))), (q2, .inl (k 1, 32, wd_d (fun _ => 0))), (q3, .inl (k 1, 32, wd_d (fun _ => 0)))] H := hP
  have hD : va_D A [(h0, .inr (0, [.ref q1, .ref q2, .ref q3])), (q1, .inl (k 1, 32, wd_d (fun _ => 0))), (q2, .inl (k 1, 32, wd_d (fun _ => 0))), (q3, .inl (k 1, 32, wd_d (fun _ => 0)))] := hD
  refine lv_iconst (v := nI 0) hx hb dCi_init_28 (by decide +kernel) ?_
  refine lv_istore_n (lv' := [(1, .int (nI 0)), (0, .ref h0)]) hx hb dCi_init_29 rfl hl (by decide) rfl (fun ls hl => ?_)
  obtain ⟨b, hb9⟩ : ∃ b : Nat → Nat, b = (fun n => ([h0, q1, q2, q3] : List Nat).getD n 0) := ⟨_, rfl⟩
  have hP : va_P (dC, dI) vwCl (wc k b (fun _ _ => 0) (fun _ _ => 0)) H := by subst hb9; exact hP
  have hD : va_D A (wc k b (fun _ _ => 0) (fun _ _ => 0)) := by subst hb9; exact hD
  have hl : lv_has ls 4 [(1, .int (nI 0)), (0, .ref (b 0))] := by subst hb9; exact hl
  have hb0 : b 0 = h0 := by rw [hb9]; rfl
  have L30 : ∀ (n30 : Nat) (n : Nat) (D : Nat → Nat → UInt64), 32 - n < n30 → n ≤ 32 → (∀ j, j < n → D 5 j = hd_C j ∧ D 6 j = hd_S j ∧ D 7 j = hd_W j) → ∀ (H : Heap) (locs : List Loc), va_P (dC, dI) vwCl (wc k b (fun _ _ => 0) D) H → va_D A (wc k b (fun _ _ => 0) D) → va_S A s.heap H locs → ∀ ls : Array Slot, lv_has ls 4 [(0, .ref (b 0)), (1, .int (nI n))] → W p l e (headSpec wCi_init ({ frames := 1, cells := 3, slots := 96, locals := 25 })).room s m [.ref h0].toArray below meth c H locs 3 96 Q9 (F0 m 30 ls []) := by
    intro n30
    induction n30 with
    | zero => intro n D hm; exact absurd hm (Nat.not_lt_zero _)
    | succ n30 ih30 =>
      intro n D hm30 hn9 hJ H locs hP hD hS ls hl
      refine lv_iload_n hx hb dCi_init_30 rfl (lv_at hl 1 rfl) ?_
      refine lv_bipush (v := nI 32) hx hb dCi_init_31 (by decide +kernel) ?_
      refine lv_icmp_ge (tgt := 112) hx hb dCi_init_33 (by decide) (fun c33 => ?_) (fun c33 => ?_)
      · have c33 : 32 ≤ n := (nI_leI (a := 32) (b := n) (by omega) (by omega)).mp (show nI 32 ≤ nI n from c33)
        obtain rfl : n = 32 := by omega
        have hP : va_P (dC, dI) vwCl [(b 0, .inr (0, [.ref (b 1), .ref (b 2), .ref (b 3)])), (b 1, .inl (k 1, 32, wd_d (D 5))), (b 2, .inl (k 1, 32, wd_d (D 6))), (b 3, .inl (k 1, 32, wd_d (D 7)))] H := hP
        have hD : va_D A [(b 0, .inr (0, [.ref (b 1), .ref (b 2), .ref (b 3)])), (b 1, .inl (k 1, 32, wd_d (D 5))), (b 2, .inl (k 1, 32, wd_d (D 6))), (b 3, .inl (k 1, 32, wd_d (D 7)))] := hD
        rw [hb0] at hP hD
        rw [hQ9]
        exact ct_rv hx hb hr hlocks (b, D) hJ hP hD hS (Nat.le_refl _) (Nat.le_refl _) dCi_init_112
      · have c33 : ¬ 32 ≤ n := fun q9 => c33 (show nI 32 ≤ nI n from (nI_leI (a := 32) (b := n) (by omega) (by omega)).mpr q9)
        have hn : n < 32 := by omega
        refine lv_iload_n hx hb dCi_init_36 rfl (lv_at hl 1 rfl) ?_
        refine lv_bipush (v := nI 17) hx hb dCi_init_37 (by decide +kernel) ?_
        refine lv_icmp_lt (tgt := 49) hx hb dCi_init_39 (by decide) (fun c39 => ?_) (fun c39 => ?_)
        · have c39 : n < 17 := (nI_ltI (a := n) (b := 17) (by omega) (by omega)).mp (show nI n < nI 17 from c39)
          refine lv_iload_n hx hb dCi_init_49 rfl (lv_at hl 1 rfl) ?_
          refine rw_i (y := (if 17 ≤ n then nI n - 32 else nI n)) ((if_neg (by omega)).symm) ?_
          refine lv_i2d hx hb dCi_init_50 ?_
          refine lv_ldc2d (v := 4596242258042563864) hx hb hown (hts _ tw_48) dCi_init_51 ?_
          refine lv_dmul hx hb dCi_init_54 (fb_n (hi_A n hn) (by decide)) ?_
          refine rw_d (y := hd_A n) rfl ?_
          refine lv_dstore_n (lv' := [(2, .double (hd_A n)), (0, .ref (b 0)), (1, .int (nI n))]) hx hb dCi_init_55 rfl hl (by decide) rfl (fun ls hl => ?_)
          refine lv_aload_n hx hb dCi_init_56 rfl (lv_at hl 1 rfl) ?_
          refine va_get (D := (dC, dI)) (ci := 0) (v := .ref (b 1)) (C := RCi) (T := TCi) (N := 3) hx hb hts inCi hown hK hP 0 rfl rfl 0 (by decide) (hts _ tw_53) (fun _ h9 => h9) rfl dCi_init_57 ?_
          refine lv_iload_n hx hb dCi_init_60 rfl (lv_at hl 2 rfl) ?_
          refine lv_dload_n hx hb dCi_init_61 rfl (lv_at hl 0 rfl) ?_
          refine lv_dload_n hx hb dCi_init_62 rfl (lv_at hl 0 rfl) ?_
          refine lv_dmul hx hb dCi_init_63 (fb_n (hi_y n hn) (by decide)) ?_
          refine lv_bipush (v := nI 24) hx hb dCi_init_64 (by decide +kernel) ?_
          refine rw_i (y := nI (24 + 0)) rfl ?_
          have hP : va_P (dC, dI) vwCl ([] ++ ([] ++ (wc k b (fun _ _ => 0) D))) H := hP
          have hD : va_D A ([] ++ ([] ++ (wc k b (fun _ _ => 0) D))) := hD
          refine sg_d (va_runS (As := [.double (FP.dmul (hd_A n) (hd_A n)), .int (nI (24 + 0))]) (rest := [.int (nI n), .ref (b 1)]) ⟨hx, hb, hml, hown, hts⟩ (kCi_series l dC dI k _ (FP.dmul (hd_A n) (hd_A n)) 0 (by decide) (hi_y n hn) (fun q hq => hi_s n hn 0 (by decide) q hq)) (va_cwS 2 hts (gw_S tw_49 tw_50 tw_3 tw_51) rfl rfl rfl (by decide +kernel) ⟨Nat.le_of_ble_eq_true rfl, Nat.le_of_ble_eq_true rfl⟩) ⟨ct_blind (ev := fun _ => True) (fun _ _ _ _ h => h), ct_now (A := A) (ev := fun _ => True) (fun _ _ _ => trivial) (sg_Pc hP) hK (sg_Dc hD)⟩ rfl rfl hl.1 rfl (lv_room (Nat.le_of_ble_eq_true rfl)) dCi_init_66 ⟨Nat.le_of_ble_eq_true rfl, Nat.le_of_ble_eq_true rfl⟩) hP hD hS hA (fun r66 u66 H locs hw66 hP hD hS => ?_)
          subst hw66
          have hP : va_P (dC, dI) vwCl (wc k b (fun _ _ => 0) D) H := hP
          have hD : va_D A (wc k b (fun _ _ => 0) D) := hD
          refine rw_d (y := hd_C n) rfl ?_
          refine rw_ast_d hx hb hK hP hD hS 1 1 rfl rfl (by omega) (by decide) dCi_init_69 (fun H locs hP hD hS => ?_)
          rw [wc_a1] at hP hD
          obtain ⟨D4, eD4⟩ : ∃ z, z = ud D 5 n (hd_C n) := ⟨_, rfl⟩
          rw [← eD4] at hP hD
          refine lv_aload_n hx hb dCi_init_70 rfl (lv_at hl 1 rfl) ?_
          refine va_get (D := (dC, dI)) (ci := 0) (v := .ref (b 2)) (C := RCi) (T := TCi) (N := 3) hx hb hts inCi hown hK hP 0 rfl rfl 1 (by decide) (hts _ tw_56) (fun _ h9 => h9) rfl dCi_init_71 ?_
          refine lv_iload_n hx hb dCi_init_74 rfl (lv_at hl 2 rfl) ?_
          refine lv_dload_n hx hb dCi_init_75 rfl (lv_at hl 0 rfl) ?_
          refine lv_dload_n hx hb dCi_init_76 rfl (lv_at hl 0 rfl) ?_
          refine lv_dload_n hx hb dCi_init_77 rfl (lv_at hl 0 rfl) ?_
          refine lv_dmul hx hb dCi_init_78 (fb_n (hi_y n hn) (by decide)) ?_
          refine lv_bipush (v := nI 25) hx hb dCi_init_79 (by decide +kernel) ?_
          refine rw_i (y := nI (24 + 1)) rfl ?_
          have hP : va_P (dC, dI) vwCl ([] ++ ([] ++ (wc k b (fun _ _ => 0) D4))) H := hP
          have hD : va_D A ([] ++ ([] ++ (wc k b (fun _ _ => 0) D4))) := hD
          refine sg_d (va_runS (As := [.double (FP.dmul (hd_A n) (hd_A n)), .int (nI (24 + 1))]) (rest := [.double (hd_A n), .int (nI n), .ref (b 2)]) ⟨hx, hb, hml, hown, hts⟩ (kCi_series l dC dI k _ (FP.dmul (hd_A n) (hd_A n)) 1 (by decide) (hi_y n hn) (fun q hq => hi_s n hn 1 (by decide) q hq)) (va_cwS 2 hts (gw_S tw_49 tw_50 tw_3 tw_51) rfl rfl rfl (by decide +kernel) ⟨Nat.le_of_ble_eq_true rfl, Nat.le_of_ble_eq_true rfl⟩) ⟨ct_blind (ev := fun _ => True) (fun _ _ _ _ h => h), ct_now (A := A) (ev := fun _ => True) (fun _ _ _ => trivial) (sg_Pc hP) hK (sg_Dc hD)⟩ rfl rfl hl.1 rfl (lv_room (Nat.le_of_ble_eq_true rfl)) dCi_init_81 ⟨Nat.le_of_ble_eq_true rfl, Nat.le_of_ble_eq_true rfl⟩) hP hD hS hA (fun r81 u81 H locs hw81 hP hD hS => ?_)
          subst hw81
          have hP : va_P (dC, dI) vwCl (wc k b (fun _ _ => 0) D4) H := hP
          have hD : va_D A (wc k b (fun _ _ => 0) D4) := hD
          refine lv_dmul hx hb dCi_init_84 (fb_n (hd_S_b n hn) (by decide)) ?_
          refine rw_d (y := hd_S n) rfl ?_
          refine rw_ast_d hx hb hK hP hD hS 2 1 rfl rfl (by omega) (by decide) dCi_init_85 (fun H locs hP hD hS => ?_)
          rw [wc_a2] at hP hD
          obtain ⟨D5, eD5⟩ : ∃ z, z = ud D4 6 n (hd_S n) := ⟨_, rfl⟩
          rw [← eD5] at hP hD
          refine lv_aload_n hx hb dCi_init_86 rfl (lv_at hl 1 rfl) ?_
          refine va_get (D := (dC, dI)) (ci := 0) (v := .ref (b 3)) (C := RCi) (T := TCi) (N := 3) hx hb hts inCi hown hK hP 0 rfl rfl 2 (by decide) (hts _ tw_58) (fun _ h9 => h9) rfl dCi_init_87 ?_
          refine lv_iload_n hx hb dCi_init_90 rfl (lv_at hl 2 rfl) ?_
          refine lv_ldc2d (v := 4602678819172646912) hx hb hown (hts _ tw_52) dCi_init_91 ?_
          refine rw_d (y := hd_h) rfl ?_
          refine lv_ldc2d (v := 4602678819172646912) hx hb hown (hts _ tw_52) dCi_init_94 ?_
          refine rw_d (y := hd_h) rfl ?_
          refine lv_aload_n hx hb dCi_init_97 rfl (lv_at hl 1 rfl) ?_
          refine va_get (D := (dC, dI)) (ci := 0) (v := .ref (b 1)) (C := RCi) (T := TCi) (N := 3) hx hb hts inCi hown hK hP 0 rfl rfl 0 (by decide) (hts _ tw_53) (fun _ h9 => h9) rfl dCi_init_98 ?_
          refine lv_iload_n hx hb dCi_init_101 rfl (lv_at hl 2 rfl) ?_
          refine rw_ald_d hx hb hK hP 1 1 rfl rfl (by omega) (by decide) dCi_init_102 ?_
          refine rw_d (y := D4 5 n) (by rw [eD5, ud_o _ _ _ (by decide)]) ?_
          refine rw_d (y := hd_C n) (by rw [eD4, ud_s]) ?_
          refine lv_dmul hx hb dCi_init_103 (fb_n (hi_hC n hn) (by decide)) ?_
          refine lv_dsub hx hb dCi_init_104 (fb_n (hd_W_b n hn) (by decide)) ?_
          refine rw_d (y := hd_W n) rfl ?_
          refine rw_ast_d hx hb hK hP hD hS 3 1 rfl rfl (by omega) (by decide) dCi_init_105 (fun H locs hP hD hS => ?_)
          rw [wc_a3] at hP hD
          obtain ⟨D6, eD6⟩ : ∃ z, z = ud D5 7 n (hd_W n) := ⟨_, rfl⟩
          rw [← eD6] at hP hD
          refine lv_iinc (v := nI (n + 1)) (lv' := [(1, .int (nI (n + 1))), (2, .double (hd_A n)), (0, .ref (b 0))]) hx hb dCi_init_106 hl (k := 2) rfl (nI_1 _) (by decide) rfl (fun ls hl => ?_)
          refine lv_goto (tgt := 30) hx hb dCi_init_109 (by decide) ?_
          have hJ2 : ∀ j, j < n + 1 → D6 5 j = hd_C j ∧ D6 6 j = hd_S j ∧ D6 7 j = hd_W j := by
            intro j hj
            rw [eD6, eD5, eD4]
            rcases Nat.lt_succ_iff_lt_or_eq.mp hj with h | rfl
            · rw [ud_o _ _ _ (by decide), ud_o _ _ _ (by decide), ud_n _ _ _ (by omega), ud_o _ _ _ (by decide), ud_n _ _ _ (by omega), ud_o _ _ _ (by decide), ud_n _ _ _ (by omega), ud_o _ _ _ (by decide), ud_o _ _ _ (by decide)]; exact hJ j h
            · rw [ud_o _ _ _ (by decide), ud_o _ _ _ (by decide), ud_s, ud_o _ _ _ (by decide), ud_s, ud_s]; exact ⟨rfl, rfl, rfl⟩
          exact ih30 (n + 1) D6 (by omega) (by omega) hJ2 _ _ hP hD hS ls (lv_sub hl [2, 0] rfl)
        · have c39 : ¬ n < 17 := fun q9 => c39 (show nI n < nI 17 from (nI_ltI (a := n) (b := 17) (by omega) (by omega)).mpr q9)
          refine lv_iload_n hx hb dCi_init_42 rfl (lv_at hl 1 rfl) ?_
          refine lv_bipush (v := nI 32) hx hb dCi_init_43 (by decide +kernel) ?_
          refine lv_isub hx hb dCi_init_45 ?_
          refine rw_i (y := nI n - 32) rfl ?_
          refine lv_goto (tgt := 50) hx hb dCi_init_46 (by decide) ?_
          refine rw_i (y := (if 17 ≤ n then nI n - 32 else nI n)) ((if_pos (by omega)).symm) ?_
          refine lv_i2d hx hb dCi_init_50 ?_
          refine lv_ldc2d (v := 4596242258042563864) hx hb hown (hts _ tw_48) dCi_init_51 ?_
          refine lv_dmul hx hb dCi_init_54 (fb_n (hi_A n hn) (by decide)) ?_
          refine rw_d (y := hd_A n) rfl ?_
          refine lv_dstore_n (lv' := [(2, .double (hd_A n)), (0, .ref (b 0)), (1, .int (nI n))]) hx hb dCi_init_55 rfl hl (by decide) rfl (fun ls hl => ?_)
          refine lv_aload_n hx hb dCi_init_56 rfl (lv_at hl 1 rfl) ?_
          refine va_get (D := (dC, dI)) (ci := 0) (v := .ref (b 1)) (C := RCi) (T := TCi) (N := 3) hx hb hts inCi hown hK hP 0 rfl rfl 0 (by decide) (hts _ tw_53) (fun _ h9 => h9) rfl dCi_init_57 ?_
          refine lv_iload_n hx hb dCi_init_60 rfl (lv_at hl 2 rfl) ?_
          refine lv_dload_n hx hb dCi_init_61 rfl (lv_at hl 0 rfl) ?_
          refine lv_dload_n hx hb dCi_init_62 rfl (lv_at hl 0 rfl) ?_
          refine lv_dmul hx hb dCi_init_63 (fb_n (hi_y n hn) (by decide)) ?_
          refine lv_bipush (v := nI 24) hx hb dCi_init_64 (by decide +kernel) ?_
          refine rw_i (y := nI (24 + 0)) rfl ?_
          have hP : va_P (dC, dI) vwCl ([] ++ ([] ++ (wc k b (fun _ _ => 0) D))) H := hP
          have hD : va_D A ([] ++ ([] ++ (wc k b (fun _ _ => 0) D))) := hD
          refine sg_d (va_runS (As := [.double (FP.dmul (hd_A n) (hd_A n)), .int (nI (24 + 0))]) (rest := [.int (nI n), .ref (b 1)]) ⟨hx, hb, hml, hown, hts⟩ (kCi_series l dC dI k _ (FP.dmul (hd_A n) (hd_A n)) 0 (by decide) (hi_y n hn) (fun q hq => hi_s n hn 0 (by decide) q hq)) (va_cwS 2 hts (gw_S tw_49 tw_50 tw_3 tw_51) rfl rfl rfl (by decide +kernel) ⟨Nat.le_of_ble_eq_true rfl, Nat.le_of_ble_eq_true rfl⟩) ⟨ct_blind (ev := fun _ => True) (fun _ _ _ _ h => h), ct_now (A := A) (ev := fun _ => True) (fun _ _ _ => trivial) (sg_Pc hP) hK (sg_Dc hD)⟩ rfl rfl hl.1 rfl (lv_room (Nat.le_of_ble_eq_true rfl)) dCi_init_66 ⟨Nat.le_of_ble_eq_true rfl, Nat.le_of_ble_eq_true rfl⟩) hP hD hS hA (fun r66 u66 H locs hw66 hP hD hS => ?_)
          subst hw66
          have hP : va_P (dC, dI) vwCl (wc k b (fun _ _ => 0) D) H := hP
          have hD : va_D A (wc k b (fun _ _ => 0) D) := hD
          refine rw_d (y := hd_C n) rfl ?_
          refine rw_ast_d hx hb hK hP hD hS 1 1 rfl rfl (by omega) (by decide) dCi_init_69 (fun H locs hP hD hS => ?_)
          rw [wc_a1] at hP hD
          obtain ⟨D7, eD7⟩ : ∃ z, z = ud D 5 n (hd_C n) := ⟨_, rfl⟩
          rw [← eD7] at hP hD
          refine lv_aload_n hx hb dCi_init_70 rfl (lv_at hl 1 rfl) ?_
          refine va_get (D := (dC, dI)) (ci := 0) (v := .ref (b 2)) (C := RCi) (T := TCi) (N := 3) hx hb hts inCi hown hK hP 0 rfl rfl 1 (by decide) (hts _ tw_56) (fun _ h9 => h9) rfl dCi_init_71 ?_
          refine lv_iload_n hx hb dCi_init_74 rfl (lv_at hl 2 rfl) ?_
          refine lv_dload_n hx hb dCi_init_75 rfl (lv_at hl 0 rfl) ?_
          refine lv_dload_n hx hb dCi_init_76 rfl (lv_at hl 0 rfl) ?_
          refine lv_dload_n hx hb dCi_init_77 rfl (lv_at hl 0 rfl) ?_
          refine lv_dmul hx hb dCi_init_78 (fb_n (hi_y n hn) (by decide)) ?_
          refine lv_bipush (v := nI 25) hx hb dCi_init_79 (by decide +kernel) ?_
          refine rw_i (y := nI (24 + 1)) rfl ?_
          have hP : va_P (dC, dI) vwCl ([] ++ ([] ++ (wc k b (fun _ _ => 0) D7))) H := hP
          have hD : va_D A ([] ++ ([] ++ (wc k b (fun _ _ => 0) D7))) := hD
          refine sg_d (va_runS (As := [.double (FP.dmul (hd_A n) (hd_A n)), .int (nI (24 + 1))]) (rest := [.double (hd_A n), .int (nI n), .ref (b 2)]) ⟨hx, hb, hml, hown, hts⟩ (kCi_series l dC dI k _ (FP.dmul (hd_A n) (hd_A n)) 1 (by decide) (hi_y n hn) (fun q hq => hi_s n hn 1 (by decide) q hq)) (va_cwS 2 hts (gw_S tw_49 tw_50 tw_3 tw_51) rfl rfl rfl (by decide +kernel) ⟨Nat.le_of_ble_eq_true rfl, Nat.le_of_ble_eq_true rfl⟩) ⟨ct_blind (ev := fun _ => True) (fun _ _ _ _ h => h), ct_now (A := A) (ev := fun _ => True) (fun _ _ _ => trivial) (sg_Pc hP) hK (sg_Dc hD)⟩ rfl rfl hl.1 rfl (lv_room (Nat.le_of_ble_eq_true rfl)) dCi_init_81 ⟨Nat.le_of_ble_eq_true rfl, Nat.le_of_ble_eq_true rfl⟩) hP hD hS hA (fun r81 u81 H locs hw81 hP hD hS => ?_)
          subst hw81
          have hP : va_P (dC, dI) vwCl (wc k b (fun _ _ => 0) D7) H := hP
          have hD : va_D A (wc k b (fun _ _ => 0) D7) := hD
          refine lv_dmul hx hb dCi_init_84 (fb_n (hd_S_b n hn) (by decide)) ?_
          refine rw_d (y := hd_S n) rfl ?_
          refine rw_ast_d hx hb hK hP hD hS 2 1 rfl rfl (by omega) (by decide) dCi_init_85 (fun H locs hP hD hS => ?_)
          rw [wc_a2] at hP hD
          obtain ⟨D8, eD8⟩ : ∃ z, z = ud D7 6 n (hd_S n) := ⟨_, rfl⟩
          rw [← eD8] at hP hD
          refine lv_aload_n hx hb dCi_init_86 rfl (lv_at hl 1 rfl) ?_
          refine va_get (D := (dC, dI)) (ci := 0) (v := .ref (b 3)) (C := RCi) (T := TCi) (N := 3) hx hb hts inCi hown hK hP 0 rfl rfl 2 (by decide) (hts _ tw_58) (fun _ h9 => h9) rfl dCi_init_87 ?_
          refine lv_iload_n hx hb dCi_init_90 rfl (lv_at hl 2 rfl) ?_
          refine lv_ldc2d (v := 4602678819172646912) hx hb hown (hts _ tw_52) dCi_init_91 ?_
          refine rw_d (y := hd_h) rfl ?_
          refine lv_ldc2d (v := 4602678819172646912) hx hb hown (hts _ tw_52) dCi_init_94 ?_
          refine rw_d (y := hd_h) rfl ?_
          refine lv_aload_n hx hb dCi_init_97 rfl (lv_at hl 1 rfl) ?_
          refine va_get (D := (dC, dI)) (ci := 0) (v := .ref (b 1)) (C := RCi) (T := TCi) (N := 3) hx hb hts inCi hown hK hP 0 rfl rfl 0 (by decide) (hts _ tw_53) (fun _ h9 => h9) rfl dCi_init_98 ?_
          refine lv_iload_n hx hb dCi_init_101 rfl (lv_at hl 2 rfl) ?_
          refine rw_ald_d hx hb hK hP 1 1 rfl rfl (by omega) (by decide) dCi_init_102 ?_
          refine rw_d (y := D7 5 n) (by rw [eD8, ud_o _ _ _ (by decide)]) ?_
          refine rw_d (y := hd_C n) (by rw [eD7, ud_s]) ?_
          refine lv_dmul hx hb dCi_init_103 (fb_n (hi_hC n hn) (by decide)) ?_
          refine lv_dsub hx hb dCi_init_104 (fb_n (hd_W_b n hn) (by decide)) ?_
          refine rw_d (y := hd_W n) rfl ?_
          refine rw_ast_d hx hb hK hP hD hS 3 1 rfl rfl (by omega) (by decide) dCi_init_105 (fun H locs hP hD hS => ?_)
          rw [wc_a3] at hP hD
          obtain ⟨D9, eD9⟩ : ∃ z, z = ud D8 7 n (hd_W n) := ⟨_, rfl⟩
          rw [← eD9] at hP hD
          refine lv_iinc (v := nI (n + 1)) (lv' := [(1, .int (nI (n + 1))), (2, .double (hd_A n)), (0, .ref (b 0))]) hx hb dCi_init_106 hl (k := 2) rfl (nI_1 _) (by decide) rfl (fun ls hl => ?_)
          refine lv_goto (tgt := 30) hx hb dCi_init_109 (by decide) ?_
          have hJ2 : ∀ j, j < n + 1 → D9 5 j = hd_C j ∧ D9 6 j = hd_S j ∧ D9 7 j = hd_W j := by
            intro j hj
            rw [eD9, eD8, eD7]
            rcases Nat.lt_succ_iff_lt_or_eq.mp hj with h | rfl
            · rw [ud_o _ _ _ (by decide), ud_o _ _ _ (by decide), ud_n _ _ _ (by omega), ud_o _ _ _ (by decide), ud_n _ _ _ (by omega), ud_o _ _ _ (by decide), ud_n _ _ _ (by omega), ud_o _ _ _ (by decide), ud_o _ _ _ (by decide)]; exact hJ j h
            · rw [ud_o _ _ _ (by decide), ud_o _ _ _ (by decide), ud_s, ud_o _ _ _ (by decide), ud_s, ud_s]; exact ⟨rfl, rfl, rfl⟩
          exact ih30 (n + 1) D9 (by omega) (by omega) hJ2 _ _ hP hD hS ls (lv_sub hl [2, 0] rfl)
  exact L30 _ 0 (fun _ _ => 0) (Nat.lt_succ_self _) (by omega) (fun j hj => absurd hj (Nat.not_lt_zero _)) _ _ hP hD hS ls (lv_sub hl [1, 0] rfl)
