set_option maxHeartbeats 4000000 in
set_option maxRecDepth 100000 in
theorem kMo_takes1 (l : Launch) (dC : Nat → ClassId) (dI : Nat → Nat → Nat) (k : Nat → ClassId) (b : Nat → Nat) (I : Nat → Nat → Int32) (D : Nat → Nat → UInt64) (sz : Nat) (kk : Nat) (hk : kk < 6) : Met l yMo_takes wMo_takes ({ frames := 0, cells := 0, slots := 0, locals := 0 }) (va_Pc [.ref (b 0), .ref (b 11), .int (nI kk)] (ct_pre (dC, dI) (mo_ty k) (fun _ => True) (wm k b I D) sz)) (va_Qv (fun (u : Nat → UInt64) => ∀ i, i < 32 → u i = D 2 (32 * kk + i)) (fun u t => ct_at (dC, dI) (va_A (wm k b I D) sz) ((fun u => wm k b I (us D 4 u)) u) t) (va_A (wm k b I D) sz)) 0 0 (va_A (wm k b I D) sz) := by
  refine Met.ofW (cc := cMo_takes) (maxL := 4) (ret := none) (by decide) rfl ?_
  intro p e s m args below meth c s₁ B hml hv
  obtain ⟨rfl, hsz, hP, hK, hD0, hE⟩ := hv
  have hx := B.exec
  have hb := B.bytes
  have hr := B.returns
  have hts : ∀ w ∈ W0, w.before [.ref (b 0), .ref (b 11), .int (nI kk)].toArray s = true := fun w h => atoms_spec (ws := wMo_takes) B.pre w (List.mem_cons_of_mem _ h)
  have hown : s.vm.findClass RMo = some m.cls := findClass_of_methodNamed B.named
  have hlocks := B.notSynchronized
  subst hsz
  have hD := hD0.self (sz := s.heap.size)
  generalize hAe : va_A (wm k b I D) s.heap.size = A at hD ⊢
  have hA : ∀ q : Nat, s.heap.size ≤ q → A q := fun q h => by rw [← hAe]; exact Or.inr h
  have hS : va_S A s.heap s.heap [] := va_S.rf
  have hl := lv_entry ([.ref (b 0), .ref (b 11), .int (nI kk)]) (n := 4) (Nat.le_of_ble_eq_true rfl)
  rw [lg_entry_eq]
  generalize (lg_sl ([.ref (b 0), .ref (b 11), .int (nI kk)]) ++ List.replicate (4 - (lg_sl ([.ref (b 0), .ref (b 11), .int (nI kk)])).length) Slot.unset).toArray = ls at hl ⊢
  have hl : lv_has ls 4 [(0, .ref (b 0)), (1, .ref (b 11)), (2, .int (nI kk))] := hl
  refine lp_q (fun Q9 hQ9 => ?_)
  refine lv_iconst (v := nI 0) hx hb dMo_takes_0 (by decide +kernel) ?_
  refine lv_istore_n (lv' := [(3, .int (nI 0)), (0, .ref (b 0)), (1, .ref (b 11)), (2, .int (nI kk))]) hx hb dMo_takes_1 rfl hl (by decide) rfl (fun ls hl => ?_)
  rw [← us_id D 4] at hP hD
  have L2 : ∀ (n2 : Nat) (i : Nat) (v : Nat → UInt64), 32 - i < n2 → i ≤ 32 → (∀ q, q < i → v q = D 2 (32 * kk + q)) → ∀ (H : Heap) (locs : List Loc), va_P (dC, dI) vwCl (wm k b I (us D 4 v)) H → va_D A (wm k b I (us D 4 v)) → va_S A s.heap H locs → ∀ ls : Array Slot, lv_has ls 4 [(0, .ref (b 0)), (1, .ref (b 11)), (2, .int (nI kk)), (3, .int (nI i))] → W p l e (headSpec wMo_takes ({ frames := 0, cells := 0, slots := 0, locals := 0 })).room s m [.ref (b 0), .ref (b 11), .int (nI kk)].toArray below meth c H locs 0 0 Q9 (F0 m 2 ls []) := by
    intro n2
    induction n2 with
    | zero => intro i v hm; exact absurd hm (Nat.not_lt_zero _)
    | succ n2 ih2 =>
      intro i v hm2 hi hv H locs hP hD hS ls hl
      refine lv_iload_n hx hb dMo_takes_2 rfl (lv_at hl 3 rfl) ?_
      refine lv_bipush (v := nI 32) hx hb dMo_takes_3 (by decide +kernel) ?_
      refine lv_icmp_ge (tgt := 28) hx hb dMo_takes_5 (by decide) (fun c5 => ?_) (fun c5 => ?_)
      · have c5 : 32 ≤ i := (nI_leI (a := 32) (b := i) (by omega) (by omega)).mp (show nI 32 ≤ nI i from c5)
        rw [hQ9]
        exact ct_rv hx hb hr hlocks v (fun q hq => hv q (by omega)) hP hD hS (Nat.le_refl _) (Nat.le_refl _) dMo_takes_28
      · have c5 : ¬ 32 ≤ i := fun q9 => c5 (show nI 32 ≤ nI i from (nI_leI (a := 32) (b := i) (by omega) (by omega)).mpr q9)
        refine lv_aload_n hx hb dMo_takes_8 rfl (lv_at hl 1 rfl) ?_
        refine lv_iload_n hx hb dMo_takes_9 rfl (lv_at hl 3 rfl) ?_
        refine lv_aload_n hx hb dMo_takes_10 rfl (lv_at hl 0 rfl) ?_
        refine va_get (D := (dC, dI)) (ci := 8) (v := .ref (b 9)) (C := RMo) (T := TMo) (N := 27) hx hb hts inMo hown hK hP 0 rfl rfl 20 (by decide) (hts _ tw_667) (fun _ h9 => h9) rfl dMo_takes_11 ?_
        refine lv_bipush (v := nI 32) hx hb dMo_takes_14 (by decide +kernel) ?_
        refine lv_iload_n hx hb dMo_takes_16 rfl (lv_at hl 2 rfl) ?_
        refine lv_imul hx hb dMo_takes_17 ?_
        refine rw_i (y := nI (32 * kk)) (pk_mul _ _) ?_
        refine lv_iload_n hx hb dMo_takes_18 rfl (lv_at hl 3 rfl) ?_
        refine lv_iadd hx hb dMo_takes_19 ?_
        refine rw_i (y := nI ((32 * kk) + i)) (nI_add _ _) ?_
        refine rw_ald_d hx hb hK hP 9 1 rfl rfl (by omega) (by decide) dMo_takes_20 ?_
        refine rw_d (y := D 2 ((32 * kk) + i)) (by rw [us_o _ _ (by decide)]) ?_
        refine rw_ast_d hx hb hK hP hD hS 11 1 rfl rfl (by omega) (by decide) dMo_takes_21 (fun H locs hP hD hS => ?_)
        rw [wm_a11] at hP hD
        obtain ⟨D1, eD1⟩ : ∃ z, z = ud (us D 4 v) 4 i (D 2 ((32 * kk) + i)) := ⟨_, rfl⟩
        rw [← eD1] at hP hD
        refine lv_iinc (v := nI (i + 1)) (lv' := [(3, .int (nI (i + 1))), (0, .ref (b 0)), (1, .ref (b 11)), (2, .int (nI kk))]) hx hb dMo_takes_22 hl (k := 3) rfl (nI_1 _) (by decide) rfl (fun ls hl => ?_)
        refine lv_goto (tgt := 2) hx hb dMo_takes_25 (by decide) ?_
        rw [eD1] at hP hD
        rw [ud_us] at hP hD
        exact ih2 (i + 1) (vf_upd v i (D 2 (32 * kk + i))) (by omega) (by omega) (fill_1 hv rfl) _ _ hP hD hS ls (lv_sub hl [1, 2, 3, 0] rfl)
  exact L2 _ 0 (D 4) (Nat.lt_succ_self _) (by omega) (fun q hq => absurd hq (Nat.not_lt_zero _)) _ _ hP hD hS ls (lv_sub hl [1, 2, 3, 0] rfl)
set_option maxHeartbeats 4000000 in
set_option maxRecDepth 100000 in
theorem kMo_takes2 (l : Launch) (dC : Nat → ClassId) (dI : Nat → Nat → Nat) (k : Nat → ClassId) (b : Nat → Nat) (I : Nat → Nat → Int32) (D : Nat → Nat → UInt64) (sz : Nat) (kk : Nat) (hk : kk < 6) : Met l yMo_takes wMo_takes ({ frames := 0, cells := 0, slots := 0, locals := 0 }) (va_Pc [.ref (b 0), .ref (b 12), .int (nI kk)] (ct_pre (dC, dI) (mo_ty k) (fun _ => True) (wm k b I D) sz)) (va_Qv (fun (u : Nat → UInt64) => ∀ i, i < 32 → u i = D 2 (32 * kk + i)) (fun u t => ct_at (dC, dI) (va_A (wm k b I D) sz) ((fun u => wm k b I (us D 5 u)) u) t) (va_A (wm k b I D) sz)) 0 0 (va_A (wm k b I D) sz) := by
  refine Met.ofW (cc := cMo_takes) (maxL := 4) (ret := none) (by decide) rfl ?_
  intro p e s m args below meth c s₁ B hml hv
  obtain ⟨rfl, hsz, hP, hK, hD0, hE⟩ := hv
  have hx := B.exec
  have hb := B.bytes
  have hr := B.returns
  have hts : ∀ w ∈ W0, w.before [.ref (b 0), .ref (b 12), .int (nI kk)].toArray s = true := fun w h => atoms_spec (ws := wMo_takes) B.pre w (List.mem_cons_of_mem _ h)
  have hown : s.vm.findClass RMo = some m.cls := findClass_of_methodNamed B.named
  have hlocks := B.notSynchronized
  subst hsz
  have hD := hD0.self (sz := s.heap.size)
  generalize hAe : va_A (wm k b I D) s.heap.size = A at hD ⊢
  have hA : ∀ q : Nat, s.heap.size ≤ q → A q := fun q h => by rw [← hAe]; exact Or.inr h
  have hS : va_S A s.heap s.heap [] := va_S.rf
  have hl := lv_entry ([.ref (b 0), .ref (b 12), .int (nI kk)]) (n := 4) (Nat.le_of_ble_eq_true rfl)
  rw [lg_entry_eq]
  generalize (lg_sl ([.ref (b 0), .ref (b 12), .int (nI kk)]) ++ List.replicate (4 - (lg_sl ([.ref (b 0), .ref (b 12), .int (nI kk)])).length) Slot.unset).toArray = ls at hl ⊢
  have hl : lv_has ls 4 [(0, .ref (b 0)), (1, .ref (b 12)), (2, .int (nI kk))] := hl
  refine lp_q (fun Q9 hQ9 => ?_)
  refine lv_iconst (v := nI 0) hx hb dMo_takes_0 (by decide +kernel) ?_
  refine lv_istore_n (lv' := [(3, .int (nI 0)), (0, .ref (b 0)), (1, .ref (b 12)), (2, .int (nI kk))]) hx hb dMo_takes_1 rfl hl (by decide) rfl (fun ls hl => ?_)
  rw [← us_id D 5] at hP hD
  have L2 : ∀ (n2 : Nat) (i : Nat) (v : Nat → UInt64), 32 - i < n2 → i ≤ 32 → (∀ q, q < i → v q = D 2 (32 * kk + q)) → ∀ (H : Heap) (locs : List Loc), va_P (dC, dI) vwCl (wm k b I (us D 5 v)) H → va_D A (wm k b I (us D 5 v)) → va_S A s.heap H locs → ∀ ls : Array Slot, lv_has ls 4 [(0, .ref (b 0)), (1, .ref (b 12)), (2, .int (nI kk)), (3, .int (nI i))] → W p l e (headSpec wMo_takes ({ frames := 0, cells := 0, slots := 0, locals := 0 })).room s m [.ref (b 0), .ref (b 12), .int (nI kk)].toArray below meth c H locs 0 0 Q9 (F0 m 2 ls []) := by
    intro n2
    induction n2 with
    | zero => intro i v hm; exact absurd hm (Nat.not_lt_zero _)
    | succ n2 ih2 =>
      intro i v hm2 hi hv H locs hP hD hS ls hl
      refine lv_iload_n hx hb dMo_takes_2 rfl (lv_at hl 3 rfl) ?_
      refine lv_bipush (v := nI 32) hx hb dMo_takes_3 (by decide +kernel) ?_
      refine lv_icmp_ge (tgt := 28) hx hb dMo_takes_5 (by decide) (fun c5 => ?_) (fun c5 => ?_)
      · have c5 : 32 ≤ i := (nI_leI (a := 32) (b := i) (by omega) (by omega)).mp (show nI 32 ≤ nI i from c5)
        rw [hQ9]
        exact ct_rv hx hb hr hlocks v (fun q hq => hv q (by omega)) hP hD hS (Nat.le_refl _) (Nat.le_refl _) dMo_takes_28
      · have c5 : ¬ 32 ≤ i := fun q9 => c5 (show nI 32 ≤ nI i from (nI_leI (a := 32) (b := i) (by omega) (by omega)).mpr q9)
        refine lv_aload_n hx hb dMo_takes_8 rfl (lv_at hl 1 rfl) ?_
        refine lv_iload_n hx hb dMo_takes_9 rfl (lv_at hl 3 rfl) ?_
        refine lv_aload_n hx hb dMo_takes_10 rfl (lv_at hl 0 rfl) ?_
        refine va_get (D := (dC, dI)) (ci := 8) (v := .ref (b 9)) (C := RMo) (T := TMo) (N := 27) hx hb hts inMo hown hK hP 0 rfl rfl 20 (by decide) (hts _ tw_667) (fun _ h9 => h9) rfl dMo_takes_11 ?_
        refine lv_bipush (v := nI 32) hx hb dMo_takes_14 (by decide +kernel) ?_
        refine lv_iload_n hx hb dMo_takes_16 rfl (lv_at hl 2 rfl) ?_
        refine lv_imul hx hb dMo_takes_17 ?_
        refine rw_i (y := nI (32 * kk)) (pk_mul _ _) ?_
        refine lv_iload_n hx hb dMo_takes_18 rfl (lv_at hl 3 rfl) ?_
        refine lv_iadd hx hb dMo_takes_19 ?_
        refine rw_i (y := nI ((32 * kk) + i)) (nI_add _ _) ?_
        refine rw_ald_d hx hb hK hP 9 1 rfl rfl (by omega) (by decide) dMo_takes_20 ?_
        refine rw_d (y := D 2 ((32 * kk) + i)) (by rw [us_o _ _ (by decide)]) ?_
        refine rw_ast_d hx hb hK hP hD hS 12 1 rfl rfl (by omega) (by decide) dMo_takes_21 (fun H locs hP hD hS => ?_)
        rw [wm_a12] at hP hD
        obtain ⟨D1, eD1⟩ : ∃ z, z = ud (us D 5 v) 5 i (D 2 ((32 * kk) + i)) := ⟨_, rfl⟩
        rw [← eD1] at hP hD
        refine lv_iinc (v := nI (i + 1)) (lv' := [(3, .int (nI (i + 1))), (0, .ref (b 0)), (1, .ref (b 12)), (2, .int (nI kk))]) hx hb dMo_takes_22 hl (k := 3) rfl (nI_1 _) (by decide) rfl (fun ls hl => ?_)
        refine lv_goto (tgt := 2) hx hb dMo_takes_25 (by decide) ?_
        rw [eD1] at hP hD
        rw [ud_us] at hP hD
        exact ih2 (i + 1) (vf_upd v i (D 2 (32 * kk + i))) (by omega) (by omega) (fill_1 hv rfl) _ _ hP hD hS ls (lv_sub hl [1, 2, 3, 0] rfl)
  exact L2 _ 0 (D 5) (Nat.lt_succ_self _) (by omega) (fun q hq => absurd hq (Nat.not_lt_zero _)) _ _ hP hD hS ls (lv_sub hl [1, 2, 3, 0] rfl)
set_option maxHeartbeats 4000000 in
set_option maxRecDepth 100000 in
theorem kMo_warps (l : Launch) (dC : Nat → ClassId) (dI : Nat → Nat → Nat) (k : Nat → ClassId) (b : Nat → Nat) (I : Nat → Nat → Int32) (D : Nat → Nat → UInt64) (sz : Nat) (na nb : Nat) (g1 : 1 ≤ na) (g2 : na ≤ 10) (g3 : 1 ≤ nb) (g4 : nb ≤ 8) (h8 : I 0 8 = nI na) (h9 : I 0 9 = nI nb) (hx9 : ∀ q, q < 4 * na → fb_ 1155 (D 4 q)) (hy9 : ∀ q, q < 4 * nb → fb_ 1155 (D 5 q)) : Met l yMo_warps wMo_warps ({ frames := 0, cells := 0, slots := 0, locals := 0 }) (va_Pc [.ref (b 0)] (ct_pre (dC, dI) (mo_ty k) (fun _ => True) (wm k b I D) sz)) (va_Qd (fun r (_ : Nat → UInt64) => r = hw_wa (D 4) (D 5) na nb) (fun u t => ct_at (dC, dI) (va_A (wm k b I D) sz) ((fun u => wm k b I (us D 6 u)) u) t) (va_A (wm k b I D) sz)) 0 0 (va_A (wm k b I D) sz) := by
  refine Met.ofW (cc := cMo_warps) (maxL := 8) (ret := (some .double)) (by decide) rfl ?_
  intro p e s m args below meth c s₁ B hml hv
  obtain ⟨rfl, hsz, hP, hK, hD0, hE⟩ := hv
  have hx := B.exec
  have hb := B.bytes
  have hr := B.returns
  have hts : ∀ w ∈ W0, w.before [.ref (b 0)].toArray s = true := fun w h => atoms_spec (ws := wMo_warps) B.pre w (List.mem_cons_of_mem _ h)
  have hown : s.vm.findClass RMo = some m.cls := findClass_of_methodNamed B.named
  have hlocks := B.notSynchronized
  subst hsz
  have hD := hD0.self (sz := s.heap.size)
  generalize hAe : va_A (wm k b I D) s.heap.size = A at hD ⊢
  have hA : ∀ q : Nat, s.heap.size ≤ q → A q := fun q h => by rw [← hAe]; exact Or.inr h
  have hS : va_S A s.heap s.heap [] := va_S.rf
  have hl := lv_entry ([.ref (b 0)]) (n := 8) (Nat.le_of_ble_eq_true rfl)
  rw [lg_entry_eq]
  generalize (lg_sl ([.ref (b 0)]) ++ List.replicate (8 - (lg_sl ([.ref (b 0)])).length) Slot.unset).toArray = ls at hl ⊢
  have hl : lv_has ls 8 [(0, .ref (b 0))] := hl
  refine lp_q (fun Q9 hQ9 => ?_)
  refine lv_iconst (v := nI 0) hx hb dMo_warps_0 (by decide +kernel) ?_
  refine lv_istore_n (lv' := [(1, .int (nI 0)), (0, .ref (b 0))]) hx hb dMo_warps_1 rfl hl (by decide) rfl (fun ls hl => ?_)
  rw [← us_id D 6] at hP hD
  have L2 : ∀ (n2 : Nat) (i : Nat) (v : Nat → UInt64), na - i < n2 → i ≤ na → (∀ a c, (a < i ∨ (a = i ∧ c < 0)) → c < nb → v (8 * a + c) = hw_dd (D 4) (D 5) a c) → ∀ (H : Heap) (locs : List Loc), va_P (dC, dI) vwCl (wm k b I (us D 6 v)) H → va_D A (wm k b I (us D 6 v)) → va_S A s.heap H locs → ∀ ls : Array Slot, lv_has ls 8 [(0, .ref (b 0)), (1, .int (nI i))] → W p l e (headSpec wMo_warps ({ frames := 0, cells := 0, slots := 0, locals := 0 })).room s m [.ref (b 0)].toArray below meth c H locs 0 0 Q9 (F0 m 2 ls []) := by
    intro n2
    induction n2 with
    | zero => intro i v hm; exact absurd hm (Nat.not_lt_zero _)
    | succ n2 ih2 =>
      intro i v hm2 hi hv H locs hP hD hS ls hl
      refine lv_iload_n hx hb dMo_warps_2 rfl (lv_at hl 1 rfl) ?_
      refine lv_aload_n hx hb dMo_warps_3 rfl (lv_at hl 0 rfl) ?_
      refine va_get (D := (dC, dI)) (ci := 8) (v := .int (I 0 8)) (C := RMo) (T := TMo) (N := 27) hx hb hts inMo hown hK hP 0 rfl rfl 8 (by decide) (hts _ tw_655) (fun _ h9 => h9) rfl dMo_warps_4 ?_
      refine rw_i (y := nI na) h8 ?_
      refine lv_icmp_ge (tgt := 232) hx hb dMo_warps_7 (by decide) (fun c7 => ?_) (fun c7 => ?_)
      · have c7 : na ≤ i := (nI_leI (a := na) (b := i) (by omega) (by omega)).mp (show nI na ≤ nI i from c7)
        refine lv_aload_n hx hb dMo_warps_232 rfl (lv_at hl 0 rfl) ?_
        refine va_get (D := (dC, dI)) (ci := 8) (v := .ref (b 13)) (C := RMo) (T := TMo) (N := 27) hx hb hts inMo hown hK hP 0 rfl rfl 24 (by decide) (hts _ tw_671) (fun _ h9 => h9) rfl dMo_warps_233 ?_
        refine lv_bipush (v := nI 8) hx hb dMo_warps_236 (by decide +kernel) ?_
        refine lv_aload_n hx hb dMo_warps_238 rfl (lv_at hl 0 rfl) ?_
        refine va_get (D := (dC, dI)) (ci := 8) (v := .int (I 0 8)) (C := RMo) (T := TMo) (N := 27) hx hb hts inMo hown hK hP 0 rfl rfl 8 (by decide) (hts _ tw_655) (fun _ h9 => h9) rfl dMo_warps_239 ?_
        refine rw_i (y := nI na) h8 ?_
        refine lv_iconst (v := nI 1) hx hb dMo_warps_242 (by decide +kernel) ?_
        refine lv_isub hx hb dMo_warps_243 ?_
        refine rw_i (y := nI (na - 1)) (pk_sub (by omega)) ?_
        refine lv_imul hx hb dMo_warps_244 ?_
        refine rw_i (y := nI (8 * (na - 1))) (pk_mul _ _) ?_
        refine lv_aload_n hx hb dMo_warps_245 rfl (lv_at hl 0 rfl) ?_
        refine va_get (D := (dC, dI)) (ci := 8) (v := .int (I 0 9)) (C := RMo) (T := TMo) (N := 27) hx hb hts inMo hown hK hP 0 rfl rfl 9 (by decide) (hts _ tw_656) (fun _ h9 => h9) rfl dMo_warps_246 ?_
        refine rw_i (y := nI nb) h9 ?_
        refine lv_iadd hx hb dMo_warps_249 ?_
        refine rw_i (y := nI ((8 * (na - 1)) + nb)) (nI_add _ _) ?_
        refine lv_iconst (v := nI 1) hx hb dMo_warps_250 (by decide +kernel) ?_
        refine lv_isub hx hb dMo_warps_251 ?_
        refine rw_i (y := nI (((8 * (na - 1)) + nb) - 1)) (pk_sub (by omega)) ?_
        refine rw_ald_d hx hb hK hP 13 1 rfl rfl (by omega) (by decide) dMo_warps_252 ?_
        refine rw_d (y := hw_dd (D 4) (D 5) (na - 1) (nb - 1)) (by rw [us_c]; exact (congrArg v (by omega)).trans (hv (na - 1) (nb - 1) (by omega) (by omega))) ?_
        refine lv_aload_n hx hb dMo_warps_253 rfl (lv_at hl 0 rfl) ?_
        refine va_get (D := (dC, dI)) (ci := 8) (v := .int (I 0 8)) (C := RMo) (T := TMo) (N := 27) hx hb hts inMo hown hK hP 0 rfl rfl 8 (by decide) (hts _ tw_655) (fun _ h9 => h9) rfl dMo_warps_254 ?_
        refine rw_i (y := nI na) h8 ?_
        refine lv_aload_n hx hb dMo_warps_257 rfl (lv_at hl 0 rfl) ?_
        refine va_get (D := (dC, dI)) (ci := 8) (v := .int (I 0 9)) (C := RMo) (T := TMo) (N := 27) hx hb hts inMo hown hK hP 0 rfl rfl 9 (by decide) (hts _ tw_656) (fun _ h9 => h9) rfl dMo_warps_258 ?_
        refine rw_i (y := nI nb) h9 ?_
        refine lv_iadd hx hb dMo_warps_261 ?_
        refine rw_i (y := nI (na + nb)) (nI_add _ _) ?_
        refine lv_i2d hx hb dMo_warps_262 ?_
        refine lv_ddiv hx hb dMo_warps_263 (fb_n (hw_wa_b hx9 hy9 g2 g4 g1 g3) (by decide)) ?_
        refine rw_d (y := hw_wa (D 4) (D 5) na nb) rfl ?_
        rw [hQ9]
        exact ct_rd hx hb hr hlocks v rfl hP hD hS (Nat.le_refl _) (Nat.le_refl _) dMo_warps_264
      · have c7 : ¬ na ≤ i := fun q9 => c7 (show nI na ≤ nI i from (nI_leI (a := na) (b := i) (by omega) (by omega)).mpr q9)
        refine lv_iconst (v := nI 0) hx hb dMo_warps_10 (by decide +kernel) ?_
        refine lv_istore_n (lv' := [(2, .int (nI 0)), (0, .ref (b 0)), (1, .int (nI i))]) hx hb dMo_warps_11 rfl hl (by decide) rfl (fun ls hl => ?_)
        have L12 : ∀ (n12 : Nat) (j : Nat) (v : Nat → UInt64), nb - j < n12 → j ≤ nb → (∀ a c, (a < i ∨ (a = i ∧ c < j)) → c < nb → v (8 * a + c) = hw_dd (D 4) (D 5) a c) → ∀ (H : Heap) (locs : List Loc), va_P (dC, dI) vwCl (wm k b I (us D 6 v)) H → va_D A (wm k b I (us D 6 v)) → va_S A s.heap H locs → ∀ ls : Array Slot, lv_has ls 8 [(0, .ref (b 0)), (1, .int (nI i)), (2, .int (nI j))] → W p l e (headSpec wMo_warps ({ frames := 0, cells := 0, slots := 0, locals := 0 })).room s m [.ref (b 0)].toArray below meth c H locs 0 0 Q9 (F0 m 12 ls []) := by
          intro n12
          induction n12 with
          | zero => intro j v hm; exact absurd hm (Nat.not_lt_zero _)
          | succ n12 ih12 =>
            intro j v hm12 hj hv H locs hP hD hS ls hl
            refine lv_iload_n hx hb dMo_warps_12 rfl (lv_at hl 2 rfl) ?_
            refine lv_aload_n hx hb dMo_warps_13 rfl (lv_at hl 0 rfl) ?_
            refine va_get (D := (dC, dI)) (ci := 8) (v := .int (I 0 9)) (C := RMo) (T := TMo) (N := 27) hx hb hts inMo hown hK hP 0 rfl rfl 9 (by decide) (hts _ tw_656) (fun _ h9 => h9) rfl dMo_warps_14 ?_
            refine rw_i (y := nI nb) h9 ?_
            refine lv_icmp_ge (tgt := 226) hx hb dMo_warps_17 (by decide) (fun c17 => ?_) (fun c17 => ?_)
            · have c17 : nb ≤ j := (nI_leI (a := nb) (b := j) (by omega) (by omega)).mp (show nI nb ≤ nI j from c17)
              refine lv_iinc (v := nI (i + 1)) (lv' := [(1, .int (nI (i + 1))), (0, .ref (b 0)), (2, .int (nI j))]) hx hb dMo_warps_226 hl (k := 1) rfl (nI_1 _) (by decide) rfl (fun ls hl => ?_)
              refine lv_goto (tgt := 2) hx hb dMo_warps_229 (by decide) ?_
              exact ih2 (i + 1) v (by omega) (by omega) (fun a c h hc => hv a c (by omega) hc) _ _ hP hD hS ls (lv_sub hl [1, 0] rfl)
            · have c17 : ¬ nb ≤ j := fun q9 => c17 (show nI nb ≤ nI j from (nI_leI (a := nb) (b := j) (by omega) (by omega)).mpr q9)
              refine lv_dconst0 hx hb dMo_warps_20 ?_
              refine rw_d (y := 0) rfl ?_
              refine lv_dstore_n (lv' := [(3, .double 0), (0, .ref (b 0)), (1, .int (nI i)), (2, .int (nI j))]) hx hb dMo_warps_21 rfl hl (by decide) rfl (fun ls hl => ?_)
              refine lv_iconst (v := nI 0) hx hb dMo_warps_22 (by decide +kernel) ?_
              refine lv_istore (lv' := [(5, .int (nI 0)), (3, .double 0), (0, .ref (b 0)), (1, .int (nI i)), (2, .int (nI j))]) hx hb dMo_warps_23 hl (by decide) rfl (fun ls hl => ?_)
              have L25 : ∀ (n25 : Nat) (bb : Nat), 4 - bb < n25 → bb ≤ 4 → ∀ (H : Heap) (locs : List Loc), va_P (dC, dI) vwCl (wm k b I (us D 6 v)) H → va_D A (wm k b I (us D 6 v)) → va_S A s.heap H locs → ∀ ls : Array Slot, lv_has ls 8 [(0, .ref (b 0)), (1, .int (nI i)), (2, .int (nI j)), (3, .double (hd_far (fun q => D 4 (4 * i + q)) (fun q => D 5 (4 * j + q)) bb)), (5, .int (nI bb))] → W p l e (headSpec wMo_warps ({ frames := 0, cells := 0, slots := 0, locals := 0 })).room s m [.ref (b 0)].toArray below meth c H locs 0 0 Q9 (F0 m 25 ls []) := by
                intro n25
                induction n25 with
                | zero => intro bb hm; exact absurd hm (Nat.not_lt_zero _)
                | succ n25 ih25 =>
                  intro bb hm25 hbb H locs hP hD hS ls hl
                  refine lv_iload hx hb dMo_warps_25 (lv_at hl 4 rfl) ?_
                  refine lv_iconst (v := nI 4) hx hb dMo_warps_27 (by decide +kernel) ?_
                  refine lv_icmp_ge (tgt := 70) hx hb dMo_warps_28 (by decide) (fun c28 => ?_) (fun c28 => ?_)
                  · have c28 : 4 ≤ bb := (nI_leI (a := 4) (b := bb) (by omega) (by omega)).mp (show nI 4 ≤ nI bb from c28)
                    obtain rfl : bb = 4 := by omega
                    rcases Nat.eq_zero_or_pos i with zi | zi <;> rcases Nat.eq_zero_or_pos j with zj | zj
                    · have ei : i = 0 := by omega
                      have ej : j = 0 := by omega
                      refine lv_dconst0 hx hb dMo_warps_70 ?_
                      refine rw_d (y := 0) rfl ?_
                      refine lv_dstore (lv' := [(5, .double 0), (0, .ref (b 0)), (1, .int (nI i)), (2, .int (nI j)), (3, .double (hd_far (fun q => D 4 (4 * i + q)) (fun q => D 5 (4 * j + q)) 4))]) hx hb dMo_warps_71 hl (by decide) rfl (fun ls hl => ?_)
                      refine lv_iconst (v := nI 0) hx hb dMo_warps_73 (by decide +kernel) ?_
                      refine lv_istore (lv' := [(7, .int (nI 0)), (5, .double 0), (0, .ref (b 0)), (1, .int (nI i)), (2, .int (nI j)), (3, .double (hd_far (fun q => D 4 (4 * i + q)) (fun q => D 5 (4 * j + q)) 4))]) hx hb dMo_warps_74 hl (by decide) rfl (fun ls hl => ?_)
                      refine lv_iload_n hx hb dMo_warps_76 rfl (lv_at hl 3 rfl) ?_
                      refine lv_if_le (tgt := 104) hx hb dMo_warps_77 (by decide) (fun c77 => ?_) (fun c77 => ?_)
                      · have c77 : i ≤ 0 := (nI_leI (a := i) (b := 0) (by omega) (by omega)).mp (show nI i ≤ nI 0 from c77)
                        refine lv_iload_n hx hb dMo_warps_104 rfl (lv_at hl 3 rfl) ?_
                        refine lv_if_le (tgt := 150) hx hb dMo_warps_105 (by decide) (fun c105 => ?_) (fun c105 => ?_)
                        · have c105 : i ≤ 0 := (nI_leI (a := i) (b := 0) (by omega) (by omega)).mp (show nI i ≤ nI 0 from c105)
                          refine lv_iload_n hx hb dMo_warps_150 rfl (lv_at hl 4 rfl) ?_
                          refine lv_if_le (tgt := 196) hx hb dMo_warps_151 (by decide) (fun c151 => ?_) (fun c151 => ?_)
                          · have c151 : j ≤ 0 := (nI_leI (a := j) (b := 0) (by omega) (by omega)).mp (show nI j ≤ nI 0 from c151)
                            refine lv_aload_n hx hb dMo_warps_196 rfl (lv_at hl 2 rfl) ?_
                            refine va_get (D := (dC, dI)) (ci := 8) (v := .ref (b 13)) (C := RMo) (T := TMo) (N := 27) hx hb hts inMo hown hK hP 0 rfl rfl 24 (by decide) (hts _ tw_671) (fun _ h9 => h9) rfl dMo_warps_197 ?_
                            refine lv_bipush (v := nI 8) hx hb dMo_warps_200 (by decide +kernel) ?_
                            refine lv_iload_n hx hb dMo_warps_202 rfl (lv_at hl 3 rfl) ?_
                            refine lv_imul hx hb dMo_warps_203 ?_
                            refine rw_i (y := nI (8 * i)) (pk_mul _ _) ?_
                            refine lv_iload_n hx hb dMo_warps_204 rfl (lv_at hl 4 rfl) ?_
                            refine lv_iadd hx hb dMo_warps_205 ?_
                            refine rw_i (y := nI ((8 * i) + j)) (nI_add _ _) ?_
                            refine lv_iload hx hb dMo_warps_206 (lv_at hl 0 rfl) ?_
                            refine lv_if_eq (tgt := 218) hx hb dMo_warps_208 (by decide) (fun c208 => ?_) (fun c208 => ?_)
                            · have c208 : 0 = 0 := (nI_eq (a := 0) (b := 0) (by omega) (by omega)).mp (show nI 0 = nI 0 from c208)
                              refine lv_dload_n hx hb dMo_warps_218 rfl (lv_at hl 5 rfl) ?_
                              refine rw_d (y := hw_dd (D 4) (D 5) i j) (by rw [ei, ej]; rfl) ?_
                              refine rw_ast_d hx hb hK hP hD hS 13 1 rfl rfl (by omega) (by decide) dMo_warps_219 (fun H locs hP hD hS => ?_)
                              rw [wm_a13] at hP hD
                              obtain ⟨D1, eD1⟩ : ∃ z, z = ud (us D 6 v) 6 ((8 * i) + j) (hw_dd (D 4) (D 5) i j) := ⟨_, rfl⟩
                              rw [← eD1] at hP hD
                              refine lv_iinc (v := nI (j + 1)) (lv' := [(2, .int (nI (j + 1))), (7, .int (nI 0)), (5, .double 0), (0, .ref (b 0)), (1, .int (nI i)), (3, .double (hd_far (fun q => D 4 (4 * i + q)) (fun q => D 5 (4 * j + q)) 4))]) hx hb dMo_warps_220 hl (k := 4) rfl (nI_1 _) (by decide) rfl (fun ls hl => ?_)
                              refine lv_goto (tgt := 12) hx hb dMo_warps_223 (by decide) ?_
                              rw [eD1] at hP hD
                              rw [ud_us] at hP hD
                              have hv2 : ∀ a c, (a < i ∨ (a = i ∧ c < j + 1)) → c < nb → vf_upd v (8 * i + j) (hw_dd (D 4) (D 5) i j) (8 * a + c) = hw_dd (D 4) (D 5) a c := fun a c h hc => by
                                by_cases e9 : 8 * a + c = 8 * i + j
                                · obtain ⟨rfl, rfl⟩ : a = i ∧ c = j := ⟨by omega, by omega⟩
                                  rw [vu_s]
                                · rw [vu_n _ _ e9]; exact hv a c (by omega) hc
                              exact ih12 (j + 1) (vf_upd v (8 * i + j) (hw_dd (D 4) (D 5) i j)) (by omega) (by omega) hv2 _ _ hP hD hS ls (lv_sub hl [3, 4, 0] rfl)
                            · have c208 : ¬ 0 = 0 := fun q9 => c208 (show nI 0 = nI 0 from (nI_eq (a := 0) (b := 0) (by omega) (by omega)).mpr q9)
                              exact absurd (by decide) c208
                          · have c151 : ¬ j ≤ 0 := fun q9 => c151 (show nI j ≤ nI 0 from (nI_leI (a := j) (b := 0) (by omega) (by omega)).mpr q9)
                            exact absurd (by omega) c151
                        · have c105 : ¬ i ≤ 0 := fun q9 => c105 (show nI i ≤ nI 0 from (nI_leI (a := i) (b := 0) (by omega) (by omega)).mpr q9)
                          exact absurd (by omega) c105
                      · have c77 : ¬ i ≤ 0 := fun q9 => c77 (show nI i ≤ nI 0 from (nI_leI (a := i) (b := 0) (by omega) (by omega)).mpr q9)
                        exact absurd (by omega) c77
                    · have ei : i = 0 := by omega
                      obtain ⟨jp, ej⟩ : ∃ jp, j = jp + 1 := ⟨j - 1, by omega⟩
                      refine lv_dconst0 hx hb dMo_warps_70 ?_
                      refine rw_d (y := 0) rfl ?_
                      refine lv_dstore (lv' := [(5, .double 0), (0, .ref (b 0)), (1, .int (nI i)), (2, .int (nI j)), (3, .double (hd_far (fun q => D 4 (4 * i + q)) (fun q => D 5 (4 * j + q)) 4))]) hx hb dMo_warps_71 hl (by decide) rfl (fun ls hl => ?_)
                      refine lv_iconst (v := nI 0) hx hb dMo_warps_73 (by decide +kernel) ?_
                      refine lv_istore (lv' := [(7, .int (nI 0)), (5, .double 0), (0, .ref (b 0)), (1, .int (nI i)), (2, .int (nI j)), (3, .double (hd_far (fun q => D 4 (4 * i + q)) (fun q => D 5 (4 * j + q)) 4))]) hx hb dMo_warps_74 hl (by decide) rfl (fun ls hl => ?_)
                      refine lv_iload_n hx hb dMo_warps_76 rfl (lv_at hl 3 rfl) ?_
                      refine lv_if_le (tgt := 104) hx hb dMo_warps_77 (by decide) (fun c77 => ?_) (fun c77 => ?_)
                      · have c77 : i ≤ 0 := (nI_leI (a := i) (b := 0) (by omega) (by omega)).mp (show nI i ≤ nI 0 from c77)
                        refine lv_iload_n hx hb dMo_warps_104 rfl (lv_at hl 3 rfl) ?_
                        refine lv_if_le (tgt := 150) hx hb dMo_warps_105 (by decide) (fun c105 => ?_) (fun c105 => ?_)
                        · have c105 : i ≤ 0 := (nI_leI (a := i) (b := 0) (by omega) (by omega)).mp (show nI i ≤ nI 0 from c105)
                          refine lv_iload_n hx hb dMo_warps_150 rfl (lv_at hl 4 rfl) ?_
                          refine lv_if_le (tgt := 196) hx hb dMo_warps_151 (by decide) (fun c151 => ?_) (fun c151 => ?_)
                          · have c151 : j ≤ 0 := (nI_leI (a := j) (b := 0) (by omega) (by omega)).mp (show nI j ≤ nI 0 from c151)
                            exact absurd c151 (by omega)
                          · have c151 : ¬ j ≤ 0 := fun q9 => c151 (show nI j ≤ nI 0 from (nI_leI (a := j) (b := 0) (by omega) (by omega)).mpr q9)
                            refine lv_iload hx hb dMo_warps_154 (lv_at hl 0 rfl) ?_
                            refine lv_if_eq (tgt := 178) hx hb dMo_warps_156 (by decide) (fun c156 => ?_) (fun c156 => ?_)
                            · have c156 : 0 = 0 := (nI_eq (a := 0) (b := 0) (by omega) (by omega)).mp (show nI 0 = nI 0 from c156)
                              refine lv_aload_n hx hb dMo_warps_178 rfl (lv_at hl 2 rfl) ?_
                              refine va_get (D := (dC, dI)) (ci := 8) (v := .ref (b 13)) (C := RMo) (T := TMo) (N := 27) hx hb hts inMo hown hK hP 0 rfl rfl 24 (by decide) (hts _ tw_671) (fun _ h9 => h9) rfl dMo_warps_179 ?_
                              refine lv_bipush (v := nI 8) hx hb dMo_warps_182 (by decide +kernel) ?_
                              refine lv_iload_n hx hb dMo_warps_184 rfl (lv_at hl 3 rfl) ?_
                              refine lv_imul hx hb dMo_warps_185 ?_
                              refine rw_i (y := nI (8 * i)) (pk_mul _ _) ?_
                              refine lv_iload_n hx hb dMo_warps_186 rfl (lv_at hl 4 rfl) ?_
                              refine lv_iadd hx hb dMo_warps_187 ?_
                              refine rw_i (y := nI ((8 * i) + j)) (nI_add _ _) ?_
                              refine lv_iconst (v := nI 1) hx hb dMo_warps_188 (by decide +kernel) ?_
                              refine lv_isub hx hb dMo_warps_189 ?_
                              refine rw_i (y := nI (((8 * i) + j) - 1)) (pk_sub (by omega)) ?_
                              refine rw_ald_d hx hb hK hP 13 1 rfl rfl (by omega) (by decide) dMo_warps_190 ?_
                              refine rw_d (y := hw_dd (D 4) (D 5) i jp) (by rw [us_c]; exact (congrArg v (by omega)).trans (hv i jp (by omega) (by omega))) ?_
                              refine lv_dstore (lv' := [(5, .double (hw_dd (D 4) (D 5) i jp)), (7, .int (nI 0)), (0, .ref (b 0)), (1, .int (nI i)), (2, .int (nI j)), (3, .double (hd_far (fun q => D 4 (4 * i + q)) (fun q => D 5 (4 * j + q)) 4))]) hx hb dMo_warps_191 hl (by decide) rfl (fun ls hl => ?_)
                              refine lv_iconst (v := nI 1) hx hb dMo_warps_193 (by decide +kernel) ?_
                              refine lv_istore (lv' := [(7, .int (nI 1)), (5, .double (hw_dd (D 4) (D 5) i jp)), (0, .ref (b 0)), (1, .int (nI i)), (2, .int (nI j)), (3, .double (hd_far (fun q => D 4 (4 * i + q)) (fun q => D 5 (4 * j + q)) 4))]) hx hb dMo_warps_194 hl (by decide) rfl (fun ls hl => ?_)
                              refine lv_aload_n hx hb dMo_warps_196 rfl (lv_at hl 2 rfl) ?_
                              refine va_get (D := (dC, dI)) (ci := 8) (v := .ref (b 13)) (C := RMo) (T := TMo) (N := 27) hx hb hts inMo hown hK hP 0 rfl rfl 24 (by decide) (hts _ tw_671) (fun _ h9 => h9) rfl dMo_warps_197 ?_
                              refine lv_bipush (v := nI 8) hx hb dMo_warps_200 (by decide +kernel) ?_
                              refine lv_iload_n hx hb dMo_warps_202 rfl (lv_at hl 3 rfl) ?_
                              refine lv_imul hx hb dMo_warps_203 ?_
                              refine rw_i (y := nI (8 * i)) (pk_mul _ _) ?_
                              refine lv_iload_n hx hb dMo_warps_204 rfl (lv_at hl 4 rfl) ?_
                              refine lv_iadd hx hb dMo_warps_205 ?_
                              refine rw_i (y := nI ((8 * i) + j)) (nI_add _ _) ?_
                              refine lv_iload hx hb dMo_warps_206 (lv_at hl 0 rfl) ?_
                              refine lv_if_eq (tgt := 218) hx hb dMo_warps_208 (by decide) (fun c208 => ?_) (fun c208 => ?_)
                              · have c208 : 1 = 0 := (nI_eq (a := 1) (b := 0) (by omega) (by omega)).mp (show nI 1 = nI 0 from c208)
                                exact absurd c208 (by decide)
                              · have c208 : ¬ 1 = 0 := fun q9 => c208 (show nI 1 = nI 0 from (nI_eq (a := 1) (b := 0) (by omega) (by omega)).mpr q9)
                                refine lv_dload_n hx hb dMo_warps_211 rfl (lv_at hl 5 rfl) ?_
                                refine lv_dload hx hb dMo_warps_212 (lv_at hl 1 rfl) ?_
                                have m4 : hw_dd (D 4) (D 5) i j = FP.dadd (hd_far (fun q => D 4 (4 * i + q)) (fun q => D 5 (4 * j + q)) 4) (hw_dd (D 4) (D 5) i jp) := by rw [ei, ej]; exact hw_d0s _ _ _
                                refine lv_dadd hx hb dMo_warps_214 (m4 ▸ fb_n (hw_dd_c hx9 hy9 g2 g4 (i := i) (j := j) (by omega) (by omega)).1 (by decide)) ?_
                                refine rw_d (y := hw_dd (D 4) (D 5) i j) m4.symm ?_
                                refine lv_goto (tgt := 219) hx hb dMo_warps_215 (by decide) ?_
                                refine rw_ast_d hx hb hK hP hD hS 13 1 rfl rfl (by omega) (by decide) dMo_warps_219 (fun H locs hP hD hS => ?_)
                                rw [wm_a13] at hP hD
                                obtain ⟨D2, eD2⟩ : ∃ z, z = ud (us D 6 v) 6 ((8 * i) + j) (hw_dd (D 4) (D 5) i j) := ⟨_, rfl⟩
                                rw [← eD2] at hP hD
                                refine lv_iinc (v := nI (j + 1)) (lv' := [(2, .int (nI (j + 1))), (7, .int (nI 1)), (5, .double (hw_dd (D 4) (D 5) i jp)), (0, .ref (b 0)), (1, .int (nI i)), (3, .double (hd_far (fun q => D 4 (4 * i + q)) (fun q => D 5 (4 * j + q)) 4))]) hx hb dMo_warps_220 hl (k := 4) rfl (nI_1 _) (by decide) rfl (fun ls hl => ?_)
                                refine lv_goto (tgt := 12) hx hb dMo_warps_223 (by decide) ?_
                                rw [eD2] at hP hD
                                rw [ud_us] at hP hD
                                have hv2 : ∀ a c, (a < i ∨ (a = i ∧ c < j + 1)) → c < nb → vf_upd v (8 * i + j) (hw_dd (D 4) (D 5) i j) (8 * a + c) = hw_dd (D 4) (D 5) a c := fun a c h hc => by
                                  by_cases e9 : 8 * a + c = 8 * i + j
                                  · obtain ⟨rfl, rfl⟩ : a = i ∧ c = j := ⟨by omega, by omega⟩
                                    rw [vu_s]
                                  · rw [vu_n _ _ e9]; exact hv a c (by omega) hc
                                exact ih12 (j + 1) (vf_upd v (8 * i + j) (hw_dd (D 4) (D 5) i j)) (by omega) (by omega) hv2 _ _ hP hD hS ls (lv_sub hl [3, 4, 0] rfl)
                            · have c156 : ¬ 0 = 0 := fun q9 => c156 (show nI 0 = nI 0 from (nI_eq (a := 0) (b := 0) (by omega) (by omega)).mpr q9)
                              exact absurd (by decide) c156
                        · have c105 : ¬ i ≤ 0 := fun q9 => c105 (show nI i ≤ nI 0 from (nI_leI (a := i) (b := 0) (by omega) (by omega)).mpr q9)
                          exact absurd (by omega) c105
                      · have c77 : ¬ i ≤ 0 := fun q9 => c77 (show nI i ≤ nI 0 from (nI_leI (a := i) (b := 0) (by omega) (by omega)).mpr q9)
                        exact absurd (by omega) c77
                    · obtain ⟨ip, ei⟩ : ∃ ip, i = ip + 1 := ⟨i - 1, by omega⟩
                      have ej : j = 0 := by omega
                      refine lv_dconst0 hx hb dMo_warps_70 ?_
                      refine rw_d (y := 0) rfl ?_
                      refine lv_dstore (lv' := [(5, .double 0), (0, .ref (b 0)), (1, .int (nI i)), (2, .int (nI j)), (3, .double (hd_far (fun q => D 4 (4 * i + q)) (fun q => D 5 (4 * j + q)) 4))]) hx hb dMo_warps_71 hl (by decide) rfl (fun ls hl => ?_)
                      refine lv_iconst (v := nI 0) hx hb dMo_warps_73 (by decide +kernel) ?_
                      refine lv_istore (lv' := [(7, .int (nI 0)), (5, .double 0), (0, .ref (b 0)), (1, .int (nI i)), (2, .int (nI j)), (3, .double (hd_far (fun q => D 4 (4 * i + q)) (fun q => D 5 (4 * j + q)) 4))]) hx hb dMo_warps_74 hl (by decide) rfl (fun ls hl => ?_)
                      refine lv_iload_n hx hb dMo_warps_76 rfl (lv_at hl 3 rfl) ?_
                      refine lv_if_le (tgt := 104) hx hb dMo_warps_77 (by decide) (fun c77 => ?_) (fun c77 => ?_)
                      · have c77 : i ≤ 0 := (nI_leI (a := i) (b := 0) (by omega) (by omega)).mp (show nI i ≤ nI 0 from c77)
                        exact absurd c77 (by omega)
                      · have c77 : ¬ i ≤ 0 := fun q9 => c77 (show nI i ≤ nI 0 from (nI_leI (a := i) (b := 0) (by omega) (by omega)).mpr q9)
                        refine lv_iload_n hx hb dMo_warps_80 rfl (lv_at hl 4 rfl) ?_
                        refine lv_if_le (tgt := 104) hx hb dMo_warps_81 (by decide) (fun c81 => ?_) (fun c81 => ?_)
                        · have c81 : j ≤ 0 := (nI_leI (a := j) (b := 0) (by omega) (by omega)).mp (show nI j ≤ nI 0 from c81)
                          refine lv_iload_n hx hb dMo_warps_104 rfl (lv_at hl 3 rfl) ?_
                          refine lv_if_le (tgt := 150) hx hb dMo_warps_105 (by decide) (fun c105 => ?_) (fun c105 => ?_)
                          · have c105 : i ≤ 0 := (nI_leI (a := i) (b := 0) (by omega) (by omega)).mp (show nI i ≤ nI 0 from c105)
                            exact absurd c105 (by omega)
                          · have c105 : ¬ i ≤ 0 := fun q9 => c105 (show nI i ≤ nI 0 from (nI_leI (a := i) (b := 0) (by omega) (by omega)).mpr q9)
                            refine lv_iload hx hb dMo_warps_108 (lv_at hl 0 rfl) ?_
                            refine lv_if_eq (tgt := 132) hx hb dMo_warps_110 (by decide) (fun c110 => ?_) (fun c110 => ?_)
                            · have c110 : 0 = 0 := (nI_eq (a := 0) (b := 0) (by omega) (by omega)).mp (show nI 0 = nI 0 from c110)
                              refine lv_aload_n hx hb dMo_warps_132 rfl (lv_at hl 2 rfl) ?_
                              refine va_get (D := (dC, dI)) (ci := 8) (v := .ref (b 13)) (C := RMo) (T := TMo) (N := 27) hx hb hts inMo hown hK hP 0 rfl rfl 24 (by decide) (hts _ tw_671) (fun _ h9 => h9) rfl dMo_warps_133 ?_
                              refine lv_bipush (v := nI 8) hx hb dMo_warps_136 (by decide +kernel) ?_
                              refine lv_iload_n hx hb dMo_warps_138 rfl (lv_at hl 3 rfl) ?_
                              refine lv_iconst (v := nI 1) hx hb dMo_warps_139 (by decide +kernel) ?_
                              refine lv_isub hx hb dMo_warps_140 ?_
                              refine rw_i (y := nI (i - 1)) (pk_sub (by omega)) ?_
                              refine lv_imul hx hb dMo_warps_141 ?_
                              refine rw_i (y := nI (8 * (i - 1))) (pk_mul _ _) ?_
                              refine lv_iload_n hx hb dMo_warps_142 rfl (lv_at hl 4 rfl) ?_
                              refine lv_iadd hx hb dMo_warps_143 ?_
                              refine rw_i (y := nI ((8 * (i - 1)) + j)) (nI_add _ _) ?_
                              refine rw_ald_d hx hb hK hP 13 1 rfl rfl (by omega) (by decide) dMo_warps_144 ?_
                              refine rw_d (y := hw_dd (D 4) (D 5) ip j) (by rw [us_c]; exact (congrArg v (by omega)).trans (hv ip j (by omega) (by omega))) ?_
                              refine lv_dstore (lv' := [(5, .double (hw_dd (D 4) (D 5) ip j)), (7, .int (nI 0)), (0, .ref (b 0)), (1, .int (nI i)), (2, .int (nI j)), (3, .double (hd_far (fun q => D 4 (4 * i + q)) (fun q => D 5 (4 * j + q)) 4))]) hx hb dMo_warps_145 hl (by decide) rfl (fun ls hl => ?_)
                              refine lv_iconst (v := nI 1) hx hb dMo_warps_147 (by decide +kernel) ?_
                              refine lv_istore (lv' := [(7, .int (nI 1)), (5, .double (hw_dd (D 4) (D 5) ip j)), (0, .ref (b 0)), (1, .int (nI i)), (2, .int (nI j)), (3, .double (hd_far (fun q => D 4 (4 * i + q)) (fun q => D 5 (4 * j + q)) 4))]) hx hb dMo_warps_148 hl (by decide) rfl (fun ls hl => ?_)
                              refine lv_iload_n hx hb dMo_warps_150 rfl (lv_at hl 4 rfl) ?_
                              refine lv_if_le (tgt := 196) hx hb dMo_warps_151 (by decide) (fun c151 => ?_) (fun c151 => ?_)
                              · have c151 : j ≤ 0 := (nI_leI (a := j) (b := 0) (by omega) (by omega)).mp (show nI j ≤ nI 0 from c151)
                                refine lv_aload_n hx hb dMo_warps_196 rfl (lv_at hl 2 rfl) ?_
                                refine va_get (D := (dC, dI)) (ci := 8) (v := .ref (b 13)) (C := RMo) (T := TMo) (N := 27) hx hb hts inMo hown hK hP 0 rfl rfl 24 (by decide) (hts _ tw_671) (fun _ h9 => h9) rfl dMo_warps_197 ?_
                                refine lv_bipush (v := nI 8) hx hb dMo_warps_200 (by decide +kernel) ?_
                                refine lv_iload_n hx hb dMo_warps_202 rfl (lv_at hl 3 rfl) ?_
                                refine lv_imul hx hb dMo_warps_203 ?_
                                refine rw_i (y := nI (8 * i)) (pk_mul _ _) ?_
                                refine lv_iload_n hx hb dMo_warps_204 rfl (lv_at hl 4 rfl) ?_
                                refine lv_iadd hx hb dMo_warps_205 ?_
                                refine rw_i (y := nI ((8 * i) + j)) (nI_add _ _) ?_
                                refine lv_iload hx hb dMo_warps_206 (lv_at hl 0 rfl) ?_
                                refine lv_if_eq (tgt := 218) hx hb dMo_warps_208 (by decide) (fun c208 => ?_) (fun c208 => ?_)
                                · have c208 : 1 = 0 := (nI_eq (a := 1) (b := 0) (by omega) (by omega)).mp (show nI 1 = nI 0 from c208)
                                  exact absurd c208 (by decide)
                                · have c208 : ¬ 1 = 0 := fun q9 => c208 (show nI 1 = nI 0 from (nI_eq (a := 1) (b := 0) (by omega) (by omega)).mpr q9)
                                  refine lv_dload_n hx hb dMo_warps_211 rfl (lv_at hl 5 rfl) ?_
                                  refine lv_dload hx hb dMo_warps_212 (lv_at hl 1 rfl) ?_
                                  have m4 : hw_dd (D 4) (D 5) i j = FP.dadd (hd_far (fun q => D 4 (4 * i + q)) (fun q => D 5 (4 * j + q)) 4) (hw_dd (D 4) (D 5) ip j) := by rw [ei, ej]; exact hw_ds0 _ _ _
                                  refine lv_dadd hx hb dMo_warps_214 (m4 ▸ fb_n (hw_dd_c hx9 hy9 g2 g4 (i := i) (j := j) (by omega) (by omega)).1 (by decide)) ?_
                                  refine rw_d (y := hw_dd (D 4) (D 5) i j) m4.symm ?_
                                  refine lv_goto (tgt := 219) hx hb dMo_warps_215 (by decide) ?_
                                  refine rw_ast_d hx hb hK hP hD hS 13 1 rfl rfl (by omega) (by decide) dMo_warps_219 (fun H locs hP hD hS => ?_)
                                  rw [wm_a13] at hP hD
                                  obtain ⟨D3, eD3⟩ : ∃ z, z = ud (us D 6 v) 6 ((8 * i) + j) (hw_dd (D 4) (D 5) i j) := ⟨_, rfl⟩
                                  rw [← eD3] at hP hD
                                  refine lv_iinc (v := nI (j + 1)) (lv' := [(2, .int (nI (j + 1))), (7, .int (nI 1)), (5, .double (hw_dd (D 4) (D 5) ip j)), (0, .ref (b 0)), (1, .int (nI i)), (3, .double (hd_far (fun q => D 4 (4 * i + q)) (fun q => D 5 (4 * j + q)) 4))]) hx hb dMo_warps_220 hl (k := 4) rfl (nI_1 _) (by decide) rfl (fun ls hl => ?_)
                                  refine lv_goto (tgt := 12) hx hb dMo_warps_223 (by decide) ?_
                                  rw [eD3] at hP hD
                                  rw [ud_us] at hP hD
                                  have hv2 : ∀ a c, (a < i ∨ (a = i ∧ c < j + 1)) → c < nb → vf_upd v (8 * i + j) (hw_dd (D 4) (D 5) i j) (8 * a + c) = hw_dd (D 4) (D 5) a c := fun a c h hc => by
                                    by_cases e9 : 8 * a + c = 8 * i + j
                                    · obtain ⟨rfl, rfl⟩ : a = i ∧ c = j := ⟨by omega, by omega⟩
                                      rw [vu_s]
                                    · rw [vu_n _ _ e9]; exact hv a c (by omega) hc
                                  exact ih12 (j + 1) (vf_upd v (8 * i + j) (hw_dd (D 4) (D 5) i j)) (by omega) (by omega) hv2 _ _ hP hD hS ls (lv_sub hl [3, 4, 0] rfl)
                              · have c151 : ¬ j ≤ 0 := fun q9 => c151 (show nI j ≤ nI 0 from (nI_leI (a := j) (b := 0) (by omega) (by omega)).mpr q9)
                                exact absurd (by omega) c151
                            · have c110 : ¬ 0 = 0 := fun q9 => c110 (show nI 0 = nI 0 from (nI_eq (a := 0) (b := 0) (by omega) (by omega)).mpr q9)
                              exact absurd (by decide) c110
                        · have c81 : ¬ j ≤ 0 := fun q9 => c81 (show nI j ≤ nI 0 from (nI_leI (a := j) (b := 0) (by omega) (by omega)).mpr q9)
                          exact absurd (by omega) c81
                    · obtain ⟨ip, ei⟩ : ∃ ip, i = ip + 1 := ⟨i - 1, by omega⟩
                      obtain ⟨jp, ej⟩ : ∃ jp, j = jp + 1 := ⟨j - 1, by omega⟩
                      refine lv_dconst0 hx hb dMo_warps_70 ?_
                      refine rw_d (y := 0) rfl ?_
                      refine lv_dstore (lv' := [(5, .double 0), (0, .ref (b 0)), (1, .int (nI i)), (2, .int (nI j)), (3, .double (hd_far (fun q => D 4 (4 * i + q)) (fun q => D 5 (4 * j + q)) 4))]) hx hb dMo_warps_71 hl (by decide) rfl (fun ls hl => ?_)
                      refine lv_iconst (v := nI 0) hx hb dMo_warps_73 (by decide +kernel) ?_
                      refine lv_istore (lv' := [(7, .int (nI 0)), (5, .double 0), (0, .ref (b 0)), (1, .int (nI i)), (2, .int (nI j)), (3, .double (hd_far (fun q => D 4 (4 * i + q)) (fun q => D 5 (4 * j + q)) 4))]) hx hb dMo_warps_74 hl (by decide) rfl (fun ls hl => ?_)
                      refine lv_iload_n hx hb dMo_warps_76 rfl (lv_at hl 3 rfl) ?_
                      refine lv_if_le (tgt := 104) hx hb dMo_warps_77 (by decide) (fun c77 => ?_) (fun c77 => ?_)
                      · have c77 : i ≤ 0 := (nI_leI (a := i) (b := 0) (by omega) (by omega)).mp (show nI i ≤ nI 0 from c77)
                        exact absurd c77 (by omega)
                      · have c77 : ¬ i ≤ 0 := fun q9 => c77 (show nI i ≤ nI 0 from (nI_leI (a := i) (b := 0) (by omega) (by omega)).mpr q9)
                        refine lv_iload_n hx hb dMo_warps_80 rfl (lv_at hl 4 rfl) ?_
                        refine lv_if_le (tgt := 104) hx hb dMo_warps_81 (by decide) (fun c81 => ?_) (fun c81 => ?_)
                        · have c81 : j ≤ 0 := (nI_leI (a := j) (b := 0) (by omega) (by omega)).mp (show nI j ≤ nI 0 from c81)
                          exact absurd c81 (by omega)
                        · have c81 : ¬ j ≤ 0 := fun q9 => c81 (show nI j ≤ nI 0 from (nI_leI (a := j) (b := 0) (by omega) (by omega)).mpr q9)
                          refine lv_aload_n hx hb dMo_warps_84 rfl (lv_at hl 2 rfl) ?_
                          refine va_get (D := (dC, dI)) (ci := 8) (v := .ref (b 13)) (C := RMo) (T := TMo) (N := 27) hx hb hts inMo hown hK hP 0 rfl rfl 24 (by decide) (hts _ tw_671) (fun _ h9 => h9) rfl dMo_warps_85 ?_
                          refine lv_bipush (v := nI 8) hx hb dMo_warps_88 (by decide +kernel) ?_
                          refine lv_iload_n hx hb dMo_warps_90 rfl (lv_at hl 3 rfl) ?_
                          refine lv_iconst (v := nI 1) hx hb dMo_warps_91 (by decide +kernel) ?_
                          refine lv_isub hx hb dMo_warps_92 ?_
                          refine rw_i (y := nI (i - 1)) (pk_sub (by omega)) ?_
                          refine lv_imul hx hb dMo_warps_93 ?_
                          refine rw_i (y := nI (8 * (i - 1))) (pk_mul _ _) ?_
                          refine lv_iload_n hx hb dMo_warps_94 rfl (lv_at hl 4 rfl) ?_
                          refine lv_iadd hx hb dMo_warps_95 ?_
                          refine rw_i (y := nI ((8 * (i - 1)) + j)) (nI_add _ _) ?_
                          refine lv_iconst (v := nI 1) hx hb dMo_warps_96 (by decide +kernel) ?_
                          refine lv_isub hx hb dMo_warps_97 ?_
                          refine rw_i (y := nI (((8 * (i - 1)) + j) - 1)) (pk_sub (by omega)) ?_
                          refine rw_ald_d hx hb hK hP 13 1 rfl rfl (by omega) (by decide) dMo_warps_98 ?_
                          refine rw_d (y := hw_dd (D 4) (D 5) ip jp) (by rw [us_c]; exact (congrArg v (by omega)).trans (hv ip jp (by omega) (by omega))) ?_
                          refine lv_dstore (lv' := [(5, .double (hw_dd (D 4) (D 5) ip jp)), (7, .int (nI 0)), (0, .ref (b 0)), (1, .int (nI i)), (2, .int (nI j)), (3, .double (hd_far (fun q => D 4 (4 * i + q)) (fun q => D 5 (4 * j + q)) 4))]) hx hb dMo_warps_99 hl (by decide) rfl (fun ls hl => ?_)
                          refine lv_iconst (v := nI 1) hx hb dMo_warps_101 (by decide +kernel) ?_
                          refine lv_istore (lv' := [(7, .int (nI 1)), (5, .double (hw_dd (D 4) (D 5) ip jp)), (0, .ref (b 0)), (1, .int (nI i)), (2, .int (nI j)), (3, .double (hd_far (fun q => D 4 (4 * i + q)) (fun q => D 5 (4 * j + q)) 4))]) hx hb dMo_warps_102 hl (by decide) rfl (fun ls hl => ?_)
                          refine lv_iload_n hx hb dMo_warps_104 rfl (lv_at hl 3 rfl) ?_
                          refine lv_if_le (tgt := 150) hx hb dMo_warps_105 (by decide) (fun c105 => ?_) (fun c105 => ?_)
                          · have c105 : i ≤ 0 := (nI_leI (a := i) (b := 0) (by omega) (by omega)).mp (show nI i ≤ nI 0 from c105)
                            exact absurd c105 (by omega)
                          · have c105 : ¬ i ≤ 0 := fun q9 => c105 (show nI i ≤ nI 0 from (nI_leI (a := i) (b := 0) (by omega) (by omega)).mpr q9)
                            refine lv_iload hx hb dMo_warps_108 (lv_at hl 0 rfl) ?_
                            refine lv_if_eq (tgt := 132) hx hb dMo_warps_110 (by decide) (fun c110 => ?_) (fun c110 => ?_)
                            · have c110 : 1 = 0 := (nI_eq (a := 1) (b := 0) (by omega) (by omega)).mp (show nI 1 = nI 0 from c110)
                              exact absurd c110 (by decide)
                            · have c110 : ¬ 1 = 0 := fun q9 => c110 (show nI 1 = nI 0 from (nI_eq (a := 1) (b := 0) (by omega) (by omega)).mpr q9)
                              refine lv_aload_n hx hb dMo_warps_113 rfl (lv_at hl 2 rfl) ?_
                              refine va_get (D := (dC, dI)) (ci := 8) (v := .ref (b 13)) (C := RMo) (T := TMo) (N := 27) hx hb hts inMo hown hK hP 0 rfl rfl 24 (by decide) (hts _ tw_671) (fun _ h9 => h9) rfl dMo_warps_114 ?_
                              refine lv_bipush (v := nI 8) hx hb dMo_warps_117 (by decide +kernel) ?_
                              refine lv_iload_n hx hb dMo_warps_119 rfl (lv_at hl 3 rfl) ?_
                              refine lv_iconst (v := nI 1) hx hb dMo_warps_120 (by decide +kernel) ?_
                              refine lv_isub hx hb dMo_warps_121 ?_
                              refine rw_i (y := nI (i - 1)) (pk_sub (by omega)) ?_
                              refine lv_imul hx hb dMo_warps_122 ?_
                              refine rw_i (y := nI (8 * (i - 1))) (pk_mul _ _) ?_
                              refine lv_iload_n hx hb dMo_warps_123 rfl (lv_at hl 4 rfl) ?_
                              refine lv_iadd hx hb dMo_warps_124 ?_
                              refine rw_i (y := nI ((8 * (i - 1)) + j)) (nI_add _ _) ?_
                              refine rw_ald_d hx hb hK hP 13 1 rfl rfl (by omega) (by decide) dMo_warps_125 ?_
                              refine rw_d (y := hw_dd (D 4) (D 5) ip j) (by rw [us_c]; exact (congrArg v (by omega)).trans (hv ip j (by omega) (by omega))) ?_
                              refine lv_dload hx hb dMo_warps_126 (lv_at hl 1 rfl) ?_
                              refine lv_dcmp hx hb dMo_warps_128 ?_
                              refine lv_if_ge (tgt := 150) hx hb dMo_warps_129 (by decide) (fun c129 => ?_) (fun c129 => ?_)
                              · have m1 : ¬ (hw_dd (D 4) (D 5) ip j).toNat < (hw_dd (D 4) (D 5) ip jp).toNat := fun z => (fc_ge_g _).mp c129 ((fo_l (hw_dd_c hx9 hy9 g2 g4 (i := ip) (j := j) (by omega) (by omega)) (hw_dd_c hx9 hy9 g2 g4 (i := ip) (j := jp) (by omega) (by omega)) (by decide)).mpr z)
                                refine lv_iload_n hx hb dMo_warps_150 rfl (lv_at hl 4 rfl) ?_
                                refine lv_if_le (tgt := 196) hx hb dMo_warps_151 (by decide) (fun c151 => ?_) (fun c151 => ?_)
                                · have c151 : j ≤ 0 := (nI_leI (a := j) (b := 0) (by omega) (by omega)).mp (show nI j ≤ nI 0 from c151)
                                  exact absurd c151 (by omega)
                                · have c151 : ¬ j ≤ 0 := fun q9 => c151 (show nI j ≤ nI 0 from (nI_leI (a := j) (b := 0) (by omega) (by omega)).mpr q9)
                                  refine lv_iload hx hb dMo_warps_154 (lv_at hl 0 rfl) ?_
                                  refine lv_if_eq (tgt := 178) hx hb dMo_warps_156 (by decide) (fun c156 => ?_) (fun c156 => ?_)
                                  · have c156 : 1 = 0 := (nI_eq (a := 1) (b := 0) (by omega) (by omega)).mp (show nI 1 = nI 0 from c156)
                                    exact absurd c156 (by decide)
                                  · have c156 : ¬ 1 = 0 := fun q9 => c156 (show nI 1 = nI 0 from (nI_eq (a := 1) (b := 0) (by omega) (by omega)).mpr q9)
                                    refine lv_aload_n hx hb dMo_warps_159 rfl (lv_at hl 2 rfl) ?_
                                    refine va_get (D := (dC, dI)) (ci := 8) (v := .ref (b 13)) (C := RMo) (T := TMo) (N := 27) hx hb hts inMo hown hK hP 0 rfl rfl 24 (by decide) (hts _ tw_671) (fun _ h9 => h9) rfl dMo_warps_160 ?_
                                    refine lv_bipush (v := nI 8) hx hb dMo_warps_163 (by decide +kernel) ?_
                                    refine lv_iload_n hx hb dMo_warps_165 rfl (lv_at hl 3 rfl) ?_
                                    refine lv_imul hx hb dMo_warps_166 ?_
                                    refine rw_i (y := nI (8 * i)) (pk_mul _ _) ?_
                                    refine lv_iload_n hx hb dMo_warps_167 rfl (lv_at hl 4 rfl) ?_
                                    refine lv_iadd hx hb dMo_warps_168 ?_
                                    refine rw_i (y := nI ((8 * i) + j)) (nI_add _ _) ?_
                                    refine lv_iconst (v := nI 1) hx hb dMo_warps_169 (by decide +kernel) ?_
                                    refine lv_isub hx hb dMo_warps_170 ?_
                                    refine rw_i (y := nI (((8 * i) + j) - 1)) (pk_sub (by omega)) ?_
                                    refine rw_ald_d hx hb hK hP 13 1 rfl rfl (by omega) (by decide) dMo_warps_171 ?_
                                    refine rw_d (y := hw_dd (D 4) (D 5) i jp) (by rw [us_c]; exact (congrArg v (by omega)).trans (hv i jp (by omega) (by omega))) ?_
                                    refine lv_dload hx hb dMo_warps_172 (lv_at hl 1 rfl) ?_
                                    refine lv_dcmp hx hb dMo_warps_174 ?_
                                    refine lv_if_ge (tgt := 196) hx hb dMo_warps_175 (by decide) (fun c175 => ?_) (fun c175 => ?_)
                                    · have m2 : ¬ (hw_dd (D 4) (D 5) i jp).toNat < (hw_dd (D 4) (D 5) ip jp).toNat := fun z => (fc_ge_g _).mp c175 ((fo_l (hw_dd_c hx9 hy9 g2 g4 (i := i) (j := jp) (by omega) (by omega)) (hw_dd_c hx9 hy9 g2 g4 (i := ip) (j := jp) (by omega) (by omega)) (by decide)).mpr z)
                                      refine lv_aload_n hx hb dMo_warps_196 rfl (lv_at hl 2 rfl) ?_
                                      refine va_get (D := (dC, dI)) (ci := 8) (v := .ref (b 13)) (C := RMo) (T := TMo) (N := 27) hx hb hts inMo hown hK hP 0 rfl rfl 24 (by decide) (hts _ tw_671) (fun _ h9 => h9) rfl dMo_warps_197 ?_
                                      refine lv_bipush (v := nI 8) hx hb dMo_warps_200 (by decide +kernel) ?_
                                      refine lv_iload_n hx hb dMo_warps_202 rfl (lv_at hl 3 rfl) ?_
                                      refine lv_imul hx hb dMo_warps_203 ?_
                                      refine rw_i (y := nI (8 * i)) (pk_mul _ _) ?_
                                      refine lv_iload_n hx hb dMo_warps_204 rfl (lv_at hl 4 rfl) ?_
                                      refine lv_iadd hx hb dMo_warps_205 ?_
                                      refine rw_i (y := nI ((8 * i) + j)) (nI_add _ _) ?_
                                      refine lv_iload hx hb dMo_warps_206 (lv_at hl 0 rfl) ?_
                                      refine lv_if_eq (tgt := 218) hx hb dMo_warps_208 (by decide) (fun c208 => ?_) (fun c208 => ?_)
                                      · have c208 : 1 = 0 := (nI_eq (a := 1) (b := 0) (by omega) (by omega)).mp (show nI 1 = nI 0 from c208)
                                        exact absurd c208 (by decide)
                                      · have c208 : ¬ 1 = 0 := fun q9 => c208 (show nI 1 = nI 0 from (nI_eq (a := 1) (b := 0) (by omega) (by omega)).mpr q9)
                                        refine lv_dload_n hx hb dMo_warps_211 rfl (lv_at hl 5 rfl) ?_
                                        refine lv_dload hx hb dMo_warps_212 (lv_at hl 1 rfl) ?_
                                        have m3 : hw_dd (D 4) (D 5) ip jp = mn_ (mn_ (hw_dd (D 4) (D 5) ip j) (hw_dd (D 4) (D 5) i jp)) (hw_dd (D 4) (D 5) ip jp) := mn_3 (by omega)
                                        have m4 : hw_dd (D 4) (D 5) i j = FP.dadd (hd_far (fun q => D 4 (4 * i + q)) (fun q => D 5 (4 * j + q)) 4) (hw_dd (D 4) (D 5) ip jp) := by rw [m3, ei, ej]; exact hw_dss _ _ _ _
                                        refine lv_dadd hx hb dMo_warps_214 (m4 ▸ fb_n (hw_dd_c hx9 hy9 g2 g4 (i := i) (j := j) (by omega) (by omega)).1 (by decide)) ?_
                                        refine rw_d (y := hw_dd (D 4) (D 5) i j) m4.symm ?_
                                        refine lv_goto (tgt := 219) hx hb dMo_warps_215 (by decide) ?_
                                        refine rw_ast_d hx hb hK hP hD hS 13 1 rfl rfl (by omega) (by decide) dMo_warps_219 (fun H locs hP hD hS => ?_)
                                        rw [wm_a13] at hP hD
                                        obtain ⟨D4, eD4⟩ : ∃ z, z = ud (us D 6 v) 6 ((8 * i) + j) (hw_dd (D 4) (D 5) i j) := ⟨_, rfl⟩
                                        rw [← eD4] at hP hD
                                        refine lv_iinc (v := nI (j + 1)) (lv' := [(2, .int (nI (j + 1))), (7, .int (nI 1)), (5, .double (hw_dd (D 4) (D 5) ip jp)), (0, .ref (b 0)), (1, .int (nI i)), (3, .double (hd_far (fun q => D 4 (4 * i + q)) (fun q => D 5 (4 * j + q)) 4))]) hx hb dMo_warps_220 hl (k := 4) rfl (nI_1 _) (by decide) rfl (fun ls hl => ?_)
                                        refine lv_goto (tgt := 12) hx hb dMo_warps_223 (by decide) ?_
                                        rw [eD4] at hP hD
                                        rw [ud_us] at hP hD
                                        have hv2 : ∀ a c, (a < i ∨ (a = i ∧ c < j + 1)) → c < nb → vf_upd v (8 * i + j) (hw_dd (D 4) (D 5) i j) (8 * a + c) = hw_dd (D 4) (D 5) a c := fun a c h hc => by
                                          by_cases e9 : 8 * a + c = 8 * i + j
                                          · obtain ⟨rfl, rfl⟩ : a = i ∧ c = j := ⟨by omega, by omega⟩
                                            rw [vu_s]
                                          · rw [vu_n _ _ e9]; exact hv a c (by omega) hc
                                        exact ih12 (j + 1) (vf_upd v (8 * i + j) (hw_dd (D 4) (D 5) i j)) (by omega) (by omega) hv2 _ _ hP hD hS ls (lv_sub hl [3, 4, 0] rfl)
                                    · have m2 : (hw_dd (D 4) (D 5) i jp).toNat < (hw_dd (D 4) (D 5) ip jp).toNat := (fo_l (hw_dd_c hx9 hy9 g2 g4 (i := i) (j := jp) (by omega) (by omega)) (hw_dd_c hx9 hy9 g2 g4 (i := ip) (j := jp) (by omega) (by omega)) (by decide)).mp ((fc_lt_g _).mp (Int32.not_le.mp c175))
                                      refine lv_aload_n hx hb dMo_warps_178 rfl (lv_at hl 2 rfl) ?_
                                      refine va_get (D := (dC, dI)) (ci := 8) (v := .ref (b 13)) (C := RMo) (T := TMo) (N := 27) hx hb hts inMo hown hK hP 0 rfl rfl 24 (by decide) (hts _ tw_671) (fun _ h9 => h9) rfl dMo_warps_179 ?_
                                      refine lv_bipush (v := nI 8) hx hb dMo_warps_182 (by decide +kernel) ?_
                                      refine lv_iload_n hx hb dMo_warps_184 rfl (lv_at hl 3 rfl) ?_
                                      refine lv_imul hx hb dMo_warps_185 ?_
                                      refine rw_i (y := nI (8 * i)) (pk_mul _ _) ?_
                                      refine lv_iload_n hx hb dMo_warps_186 rfl (lv_at hl 4 rfl) ?_
                                      refine lv_iadd hx hb dMo_warps_187 ?_
                                      refine rw_i (y := nI ((8 * i) + j)) (nI_add _ _) ?_
                                      refine lv_iconst (v := nI 1) hx hb dMo_warps_188 (by decide +kernel) ?_
                                      refine lv_isub hx hb dMo_warps_189 ?_
                                      refine rw_i (y := nI (((8 * i) + j) - 1)) (pk_sub (by omega)) ?_
                                      refine rw_ald_d hx hb hK hP 13 1 rfl rfl (by omega) (by decide) dMo_warps_190 ?_
                                      refine rw_d (y := hw_dd (D 4) (D 5) i jp) (by rw [us_c]; exact (congrArg v (by omega)).trans (hv i jp (by omega) (by omega))) ?_
                                      refine lv_dstore (lv' := [(5, .double (hw_dd (D 4) (D 5) i jp)), (7, .int (nI 1)), (0, .ref (b 0)), (1, .int (nI i)), (2, .int (nI j)), (3, .double (hd_far (fun q => D 4 (4 * i + q)) (fun q => D 5 (4 * j + q)) 4))]) hx hb dMo_warps_191 hl (by decide) rfl (fun ls hl => ?_)
                                      refine lv_iconst (v := nI 1) hx hb dMo_warps_193 (by decide +kernel) ?_
                                      refine lv_istore (lv' := [(7, .int (nI 1)), (5, .double (hw_dd (D 4) (D 5) i jp)), (0, .ref (b 0)), (1, .int (nI i)), (2, .int (nI j)), (3, .double (hd_far (fun q => D 4 (4 * i + q)) (fun q => D 5 (4 * j + q)) 4))]) hx hb dMo_warps_194 hl (by decide) rfl (fun ls hl => ?_)
                                      refine lv_aload_n hx hb dMo_warps_196 rfl (lv_at hl 2 rfl) ?_
                                      refine va_get (D := (dC, dI)) (ci := 8) (v := .ref (b 13)) (C := RMo) (T := TMo) (N := 27) hx hb hts inMo hown hK hP 0 rfl rfl 24 (by decide) (hts _ tw_671) (fun _ h9 => h9) rfl dMo_warps_197 ?_
                                      refine lv_bipush (v := nI 8) hx hb dMo_warps_200 (by decide +kernel) ?_
                                      refine lv_iload_n hx hb dMo_warps_202 rfl (lv_at hl 3 rfl) ?_
                                      refine lv_imul hx hb dMo_warps_203 ?_
                                      refine rw_i (y := nI (8 * i)) (pk_mul _ _) ?_
                                      refine lv_iload_n hx hb dMo_warps_204 rfl (lv_at hl 4 rfl) ?_
                                      refine lv_iadd hx hb dMo_warps_205 ?_
                                      refine rw_i (y := nI ((8 * i) + j)) (nI_add _ _) ?_
                                      refine lv_iload hx hb dMo_warps_206 (lv_at hl 0 rfl) ?_
                                      refine lv_if_eq (tgt := 218) hx hb dMo_warps_208 (by decide) (fun c208 => ?_) (fun c208 => ?_)
                                      · have c208 : 1 = 0 := (nI_eq (a := 1) (b := 0) (by omega) (by omega)).mp (show nI 1 = nI 0 from c208)
                                        exact absurd c208 (by decide)
                                      · have c208 : ¬ 1 = 0 := fun q9 => c208 (show nI 1 = nI 0 from (nI_eq (a := 1) (b := 0) (by omega) (by omega)).mpr q9)
                                        refine lv_dload_n hx hb dMo_warps_211 rfl (lv_at hl 5 rfl) ?_
                                        refine lv_dload hx hb dMo_warps_212 (lv_at hl 1 rfl) ?_
                                        have m3 : hw_dd (D 4) (D 5) i jp = mn_ (mn_ (hw_dd (D 4) (D 5) ip j) (hw_dd (D 4) (D 5) i jp)) (hw_dd (D 4) (D 5) ip jp) := mn_3 (by omega)
                                        have m4 : hw_dd (D 4) (D 5) i j = FP.dadd (hd_far (fun q => D 4 (4 * i + q)) (fun q => D 5 (4 * j + q)) 4) (hw_dd (D 4) (D 5) i jp) := by rw [m3, ei, ej]; exact hw_dss _ _ _ _
                                        refine lv_dadd hx hb dMo_warps_214 (m4 ▸ fb_n (hw_dd_c hx9 hy9 g2 g4 (i := i) (j := j) (by omega) (by omega)).1 (by decide)) ?_
                                        refine rw_d (y := hw_dd (D 4) (D 5) i j) m4.symm ?_
                                        refine lv_goto (tgt := 219) hx hb dMo_warps_215 (by decide) ?_
                                        refine rw_ast_d hx hb hK hP hD hS 13 1 rfl rfl (by omega) (by decide) dMo_warps_219 (fun H locs hP hD hS => ?_)
                                        rw [wm_a13] at hP hD
                                        obtain ⟨D5, eD5⟩ : ∃ z, z = ud (us D 6 v) 6 ((8 * i) + j) (hw_dd (D 4) (D 5) i j) := ⟨_, rfl⟩
                                        rw [← eD5] at hP hD
                                        refine lv_iinc (v := nI (j + 1)) (lv' := [(2, .int (nI (j + 1))), (7, .int (nI 1)), (5, .double (hw_dd (D 4) (D 5) i jp)), (0, .ref (b 0)), (1, .int (nI i)), (3, .double (hd_far (fun q => D 4 (4 * i + q)) (fun q => D 5 (4 * j + q)) 4))]) hx hb dMo_warps_220 hl (k := 4) rfl (nI_1 _) (by decide) rfl (fun ls hl => ?_)
                                        refine lv_goto (tgt := 12) hx hb dMo_warps_223 (by decide) ?_
                                        rw [eD5] at hP hD
                                        rw [ud_us] at hP hD
                                        have hv2 : ∀ a c, (a < i ∨ (a = i ∧ c < j + 1)) → c < nb → vf_upd v (8 * i + j) (hw_dd (D 4) (D 5) i j) (8 * a + c) = hw_dd (D 4) (D 5) a c := fun a c h hc => by
                                          by_cases e9 : 8 * a + c = 8 * i + j
                                          · obtain ⟨rfl, rfl⟩ : a = i ∧ c = j := ⟨by omega, by omega⟩
                                            rw [vu_s]
                                          · rw [vu_n _ _ e9]; exact hv a c (by omega) hc
                                        exact ih12 (j + 1) (vf_upd v (8 * i + j) (hw_dd (D 4) (D 5) i j)) (by omega) (by omega) hv2 _ _ hP hD hS ls (lv_sub hl [3, 4, 0] rfl)
                              · have m1 : (hw_dd (D 4) (D 5) ip j).toNat < (hw_dd (D 4) (D 5) ip jp).toNat := (fo_l (hw_dd_c hx9 hy9 g2 g4 (i := ip) (j := j) (by omega) (by omega)) (hw_dd_c hx9 hy9 g2 g4 (i := ip) (j := jp) (by omega) (by omega)) (by decide)).mp ((fc_lt_g _).mp (Int32.not_le.mp c129))
                                refine lv_aload_n hx hb dMo_warps_132 rfl (lv_at hl 2 rfl) ?_
                                refine va_get (D := (dC, dI)) (ci := 8) (v := .ref (b 13)) (C := RMo) (T := TMo) (N := 27) hx hb hts inMo hown hK hP 0 rfl rfl 24 (by decide) (hts _ tw_671) (fun _ h9 => h9) rfl dMo_warps_133 ?_
                                refine lv_bipush (v := nI 8) hx hb dMo_warps_136 (by decide +kernel) ?_
                                refine lv_iload_n hx hb dMo_warps_138 rfl (lv_at hl 3 rfl) ?_
                                refine lv_iconst (v := nI 1) hx hb dMo_warps_139 (by decide +kernel) ?_
                                refine lv_isub hx hb dMo_warps_140 ?_
                                refine rw_i (y := nI (i - 1)) (pk_sub (by omega)) ?_
                                refine lv_imul hx hb dMo_warps_141 ?_
                                refine rw_i (y := nI (8 * (i - 1))) (pk_mul _ _) ?_
                                refine lv_iload_n hx hb dMo_warps_142 rfl (lv_at hl 4 rfl) ?_
                                refine lv_iadd hx hb dMo_warps_143 ?_
                                refine rw_i (y := nI ((8 * (i - 1)) + j)) (nI_add _ _) ?_
                                refine rw_ald_d hx hb hK hP 13 1 rfl rfl (by omega) (by decide) dMo_warps_144 ?_
                                refine rw_d (y := hw_dd (D 4) (D 5) ip j) (by rw [us_c]; exact (congrArg v (by omega)).trans (hv ip j (by omega) (by omega))) ?_
                                refine lv_dstore (lv' := [(5, .double (hw_dd (D 4) (D 5) ip j)), (7, .int (nI 1)), (0, .ref (b 0)), (1, .int (nI i)), (2, .int (nI j)), (3, .double (hd_far (fun q => D 4 (4 * i + q)) (fun q => D 5 (4 * j + q)) 4))]) hx hb dMo_warps_145 hl (by decide) rfl (fun ls hl => ?_)
                                refine lv_iconst (v := nI 1) hx hb dMo_warps_147 (by decide +kernel) ?_
                                refine lv_istore (lv' := [(7, .int (nI 1)), (5, .double (hw_dd (D 4) (D 5) ip j)), (0, .ref (b 0)), (1, .int (nI i)), (2, .int (nI j)), (3, .double (hd_far (fun q => D 4 (4 * i + q)) (fun q => D 5 (4 * j + q)) 4))]) hx hb dMo_warps_148 hl (by decide) rfl (fun ls hl => ?_)
                                refine lv_iload_n hx hb dMo_warps_150 rfl (lv_at hl 4 rfl) ?_
                                refine lv_if_le (tgt := 196) hx hb dMo_warps_151 (by decide) (fun c151 => ?_) (fun c151 => ?_)
                                · have c151 : j ≤ 0 := (nI_leI (a := j) (b := 0) (by omega) (by omega)).mp (show nI j ≤ nI 0 from c151)
                                  exact absurd c151 (by omega)
                                · have c151 : ¬ j ≤ 0 := fun q9 => c151 (show nI j ≤ nI 0 from (nI_leI (a := j) (b := 0) (by omega) (by omega)).mpr q9)
                                  refine lv_iload hx hb dMo_warps_154 (lv_at hl 0 rfl) ?_
                                  refine lv_if_eq (tgt := 178) hx hb dMo_warps_156 (by decide) (fun c156 => ?_) (fun c156 => ?_)
                                  · have c156 : 1 = 0 := (nI_eq (a := 1) (b := 0) (by omega) (by omega)).mp (show nI 1 = nI 0 from c156)
                                    exact absurd c156 (by decide)
                                  · have c156 : ¬ 1 = 0 := fun q9 => c156 (show nI 1 = nI 0 from (nI_eq (a := 1) (b := 0) (by omega) (by omega)).mpr q9)
                                    refine lv_aload_n hx hb dMo_warps_159 rfl (lv_at hl 2 rfl) ?_
                                    refine va_get (D := (dC, dI)) (ci := 8) (v := .ref (b 13)) (C := RMo) (T := TMo) (N := 27) hx hb hts inMo hown hK hP 0 rfl rfl 24 (by decide) (hts _ tw_671) (fun _ h9 => h9) rfl dMo_warps_160 ?_
                                    refine lv_bipush (v := nI 8) hx hb dMo_warps_163 (by decide +kernel) ?_
                                    refine lv_iload_n hx hb dMo_warps_165 rfl (lv_at hl 3 rfl) ?_
                                    refine lv_imul hx hb dMo_warps_166 ?_
                                    refine rw_i (y := nI (8 * i)) (pk_mul _ _) ?_
                                    refine lv_iload_n hx hb dMo_warps_167 rfl (lv_at hl 4 rfl) ?_
                                    refine lv_iadd hx hb dMo_warps_168 ?_
                                    refine rw_i (y := nI ((8 * i) + j)) (nI_add _ _) ?_
                                    refine lv_iconst (v := nI 1) hx hb dMo_warps_169 (by decide +kernel) ?_
                                    refine lv_isub hx hb dMo_warps_170 ?_
                                    refine rw_i (y := nI (((8 * i) + j) - 1)) (pk_sub (by omega)) ?_
                                    refine rw_ald_d hx hb hK hP 13 1 rfl rfl (by omega) (by decide) dMo_warps_171 ?_
                                    refine rw_d (y := hw_dd (D 4) (D 5) i jp) (by rw [us_c]; exact (congrArg v (by omega)).trans (hv i jp (by omega) (by omega))) ?_
                                    refine lv_dload hx hb dMo_warps_172 (lv_at hl 1 rfl) ?_
                                    refine lv_dcmp hx hb dMo_warps_174 ?_
                                    refine lv_if_ge (tgt := 196) hx hb dMo_warps_175 (by decide) (fun c175 => ?_) (fun c175 => ?_)
                                    · have m2 : ¬ (hw_dd (D 4) (D 5) i jp).toNat < (hw_dd (D 4) (D 5) ip j).toNat := fun z => (fc_ge_g _).mp c175 ((fo_l (hw_dd_c hx9 hy9 g2 g4 (i := i) (j := jp) (by omega) (by omega)) (hw_dd_c hx9 hy9 g2 g4 (i := ip) (j := j) (by omega) (by omega)) (by decide)).mpr z)
                                      refine lv_aload_n hx hb dMo_warps_196 rfl (lv_at hl 2 rfl) ?_
                                      refine va_get (D := (dC, dI)) (ci := 8) (v := .ref (b 13)) (C := RMo) (T := TMo) (N := 27) hx hb hts inMo hown hK hP 0 rfl rfl 24 (by decide) (hts _ tw_671) (fun _ h9 => h9) rfl dMo_warps_197 ?_
                                      refine lv_bipush (v := nI 8) hx hb dMo_warps_200 (by decide +kernel) ?_
                                      refine lv_iload_n hx hb dMo_warps_202 rfl (lv_at hl 3 rfl) ?_
                                      refine lv_imul hx hb dMo_warps_203 ?_
                                      refine rw_i (y := nI (8 * i)) (pk_mul _ _) ?_
                                      refine lv_iload_n hx hb dMo_warps_204 rfl (lv_at hl 4 rfl) ?_
                                      refine lv_iadd hx hb dMo_warps_205 ?_
                                      refine rw_i (y := nI ((8 * i) + j)) (nI_add _ _) ?_
                                      refine lv_iload hx hb dMo_warps_206 (lv_at hl 0 rfl) ?_
                                      refine lv_if_eq (tgt := 218) hx hb dMo_warps_208 (by decide) (fun c208 => ?_) (fun c208 => ?_)
                                      · have c208 : 1 = 0 := (nI_eq (a := 1) (b := 0) (by omega) (by omega)).mp (show nI 1 = nI 0 from c208)
                                        exact absurd c208 (by decide)
                                      · have c208 : ¬ 1 = 0 := fun q9 => c208 (show nI 1 = nI 0 from (nI_eq (a := 1) (b := 0) (by omega) (by omega)).mpr q9)
                                        refine lv_dload_n hx hb dMo_warps_211 rfl (lv_at hl 5 rfl) ?_
                                        refine lv_dload hx hb dMo_warps_212 (lv_at hl 1 rfl) ?_
                                        have m3 : hw_dd (D 4) (D 5) ip j = mn_ (mn_ (hw_dd (D 4) (D 5) ip j) (hw_dd (D 4) (D 5) i jp)) (hw_dd (D 4) (D 5) ip jp) := mn_3 (by omega)
                                        have m4 : hw_dd (D 4) (D 5) i j = FP.dadd (hd_far (fun q => D 4 (4 * i + q)) (fun q => D 5 (4 * j + q)) 4) (hw_dd (D 4) (D 5) ip j) := by rw [m3, ei, ej]; exact hw_dss _ _ _ _
                                        refine lv_dadd hx hb dMo_warps_214 (m4 ▸ fb_n (hw_dd_c hx9 hy9 g2 g4 (i := i) (j := j) (by omega) (by omega)).1 (by decide)) ?_
                                        refine rw_d (y := hw_dd (D 4) (D 5) i j) m4.symm ?_
                                        refine lv_goto (tgt := 219) hx hb dMo_warps_215 (by decide) ?_
                                        refine rw_ast_d hx hb hK hP hD hS 13 1 rfl rfl (by omega) (by decide) dMo_warps_219 (fun H locs hP hD hS => ?_)
                                        rw [wm_a13] at hP hD
                                        obtain ⟨D6, eD6⟩ : ∃ z, z = ud (us D 6 v) 6 ((8 * i) + j) (hw_dd (D 4) (D 5) i j) := ⟨_, rfl⟩
                                        rw [← eD6] at hP hD
                                        refine lv_iinc (v := nI (j + 1)) (lv' := [(2, .int (nI (j + 1))), (7, .int (nI 1)), (5, .double (hw_dd (D 4) (D 5) ip j)), (0, .ref (b 0)), (1, .int (nI i)), (3, .double (hd_far (fun q => D 4 (4 * i + q)) (fun q => D 5 (4 * j + q)) 4))]) hx hb dMo_warps_220 hl (k := 4) rfl (nI_1 _) (by decide) rfl (fun ls hl => ?_)
                                        refine lv_goto (tgt := 12) hx hb dMo_warps_223 (by decide) ?_
                                        rw [eD6] at hP hD
                                        rw [ud_us] at hP hD
                                        have hv2 : ∀ a c, (a < i ∨ (a = i ∧ c < j + 1)) → c < nb → vf_upd v (8 * i + j) (hw_dd (D 4) (D 5) i j) (8 * a + c) = hw_dd (D 4) (D 5) a c := fun a c h hc => by
                                          by_cases e9 : 8 * a + c = 8 * i + j
                                          · obtain ⟨rfl, rfl⟩ : a = i ∧ c = j := ⟨by omega, by omega⟩
                                            rw [vu_s]
                                          · rw [vu_n _ _ e9]; exact hv a c (by omega) hc
                                        exact ih12 (j + 1) (vf_upd v (8 * i + j) (hw_dd (D 4) (D 5) i j)) (by omega) (by omega) hv2 _ _ hP hD hS ls (lv_sub hl [3, 4, 0] rfl)
                                    · have m2 : (hw_dd (D 4) (D 5) i jp).toNat < (hw_dd (D 4) (D 5) ip j).toNat := (fo_l (hw_dd_c hx9 hy9 g2 g4 (i := i) (j := jp) (by omega) (by omega)) (hw_dd_c hx9 hy9 g2 g4 (i := ip) (j := j) (by omega) (by omega)) (by decide)).mp ((fc_lt_g _).mp (Int32.not_le.mp c175))
                                      refine lv_aload_n hx hb dMo_warps_178 rfl (lv_at hl 2 rfl) ?_
                                      refine va_get (D := (dC, dI)) (ci := 8) (v := .ref (b 13)) (C := RMo) (T := TMo) (N := 27) hx hb hts inMo hown hK hP 0 rfl rfl 24 (by decide) (hts _ tw_671) (fun _ h9 => h9) rfl dMo_warps_179 ?_
                                      refine lv_bipush (v := nI 8) hx hb dMo_warps_182 (by decide +kernel) ?_
                                      refine lv_iload_n hx hb dMo_warps_184 rfl (lv_at hl 3 rfl) ?_
                                      refine lv_imul hx hb dMo_warps_185 ?_
                                      refine rw_i (y := nI (8 * i)) (pk_mul _ _) ?_
                                      refine lv_iload_n hx hb dMo_warps_186 rfl (lv_at hl 4 rfl) ?_
                                      refine lv_iadd hx hb dMo_warps_187 ?_
                                      refine rw_i (y := nI ((8 * i) + j)) (nI_add _ _) ?_
                                      refine lv_iconst (v := nI 1) hx hb dMo_warps_188 (by decide +kernel) ?_
                                      refine lv_isub hx hb dMo_warps_189 ?_
                                      refine rw_i (y := nI (((8 * i) + j) - 1)) (pk_sub (by omega)) ?_
                                      refine rw_ald_d hx hb hK hP 13 1 rfl rfl (by omega) (by decide) dMo_warps_190 ?_
                                      refine rw_d (y := hw_dd (D 4) (D 5) i jp) (by rw [us_c]; exact (congrArg v (by omega)).trans (hv i jp (by omega) (by omega))) ?_
                                      refine lv_dstore (lv' := [(5, .double (hw_dd (D 4) (D 5) i jp)), (7, .int (nI 1)), (0, .ref (b 0)), (1, .int (nI i)), (2, .int (nI j)), (3, .double (hd_far (fun q => D 4 (4 * i + q)) (fun q => D 5 (4 * j + q)) 4))]) hx hb dMo_warps_191 hl (by decide) rfl (fun ls hl => ?_)
                                      refine lv_iconst (v := nI 1) hx hb dMo_warps_193 (by decide +kernel) ?_
                                      refine lv_istore (lv' := [(7, .int (nI 1)), (5, .double (hw_dd (D 4) (D 5) i jp)), (0, .ref (b 0)), (1, .int (nI i)), (2, .int (nI j)), (3, .double (hd_far (fun q => D 4 (4 * i + q)) (fun q => D 5 (4 * j + q)) 4))]) hx hb dMo_warps_194 hl (by decide) rfl (fun ls hl => ?_)
                                      refine lv_aload_n hx hb dMo_warps_196 rfl (lv_at hl 2 rfl) ?_
                                      refine va_get (D := (dC, dI)) (ci := 8) (v := .ref (b 13)) (C := RMo) (T := TMo) (N := 27) hx hb hts inMo hown hK hP 0 rfl rfl 24 (by decide) (hts _ tw_671) (fun _ h9 => h9) rfl dMo_warps_197 ?_
                                      refine lv_bipush (v := nI 8) hx hb dMo_warps_200 (by decide +kernel) ?_
                                      refine lv_iload_n hx hb dMo_warps_202 rfl (lv_at hl 3 rfl) ?_
                                      refine lv_imul hx hb dMo_warps_203 ?_
                                      refine rw_i (y := nI (8 * i)) (pk_mul _ _) ?_
                                      refine lv_iload_n hx hb dMo_warps_204 rfl (lv_at hl 4 rfl) ?_
                                      refine lv_iadd hx hb dMo_warps_205 ?_
                                      refine rw_i (y := nI ((8 * i) + j)) (nI_add _ _) ?_
                                      refine lv_iload hx hb dMo_warps_206 (lv_at hl 0 rfl) ?_
                                      refine lv_if_eq (tgt := 218) hx hb dMo_warps_208 (by decide) (fun c208 => ?_) (fun c208 => ?_)
                                      · have c208 : 1 = 0 := (nI_eq (a := 1) (b := 0) (by omega) (by omega)).mp (show nI 1 = nI 0 from c208)
                                        exact absurd c208 (by decide)
                                      · have c208 : ¬ 1 = 0 := fun q9 => c208 (show nI 1 = nI 0 from (nI_eq (a := 1) (b := 0) (by omega) (by omega)).mpr q9)
                                        refine lv_dload_n hx hb dMo_warps_211 rfl (lv_at hl 5 rfl) ?_
                                        refine lv_dload hx hb dMo_warps_212 (lv_at hl 1 rfl) ?_
                                        have m3 : hw_dd (D 4) (D 5) i jp = mn_ (mn_ (hw_dd (D 4) (D 5) ip j) (hw_dd (D 4) (D 5) i jp)) (hw_dd (D 4) (D 5) ip jp) := mn_3 (by omega)
                                        have m4 : hw_dd (D 4) (D 5) i j = FP.dadd (hd_far (fun q => D 4 (4 * i + q)) (fun q => D 5 (4 * j + q)) 4) (hw_dd (D 4) (D 5) i jp) := by rw [m3, ei, ej]; exact hw_dss _ _ _ _
                                        refine lv_dadd hx hb dMo_warps_214 (m4 ▸ fb_n (hw_dd_c hx9 hy9 g2 g4 (i := i) (j := j) (by omega) (by omega)).1 (by decide)) ?_
                                        refine rw_d (y := hw_dd (D 4) (D 5) i j) m4.symm ?_
                                        refine lv_goto (tgt := 219) hx hb dMo_warps_215 (by decide) ?_
                                        refine rw_ast_d hx hb hK hP hD hS 13 1 rfl rfl (by omega) (by decide) dMo_warps_219 (fun H locs hP hD hS => ?_)
                                        rw [wm_a13] at hP hD
                                        obtain ⟨D7, eD7⟩ : ∃ z, z = ud (us D 6 v) 6 ((8 * i) + j) (hw_dd (D 4) (D 5) i j) := ⟨_, rfl⟩
                                        rw [← eD7] at hP hD
                                        refine lv_iinc (v := nI (j + 1)) (lv' := [(2, .int (nI (j + 1))), (7, .int (nI 1)), (5, .double (hw_dd (D 4) (D 5) i jp)), (0, .ref (b 0)), (1, .int (nI i)), (3, .double (hd_far (fun q => D 4 (4 * i + q)) (fun q => D 5 (4 * j + q)) 4))]) hx hb dMo_warps_220 hl (k := 4) rfl (nI_1 _) (by decide) rfl (fun ls hl => ?_)
                                        refine lv_goto (tgt := 12) hx hb dMo_warps_223 (by decide) ?_
                                        rw [eD7] at hP hD
                                        rw [ud_us] at hP hD
                                        have hv2 : ∀ a c, (a < i ∨ (a = i ∧ c < j + 1)) → c < nb → vf_upd v (8 * i + j) (hw_dd (D 4) (D 5) i j) (8 * a + c) = hw_dd (D 4) (D 5) a c := fun a c h hc => by
                                          by_cases e9 : 8 * a + c = 8 * i + j
                                          · obtain ⟨rfl, rfl⟩ : a = i ∧ c = j := ⟨by omega, by omega⟩
                                            rw [vu_s]
                                          · rw [vu_n _ _ e9]; exact hv a c (by omega) hc
                                        exact ih12 (j + 1) (vf_upd v (8 * i + j) (hw_dd (D 4) (D 5) i j)) (by omega) (by omega) hv2 _ _ hP hD hS ls (lv_sub hl [3, 4, 0] rfl)
                  · have c28 : ¬ 4 ≤ bb := fun q9 => c28 (show nI 4 ≤ nI bb from (nI_leI (a := 4) (b := bb) (by omega) (by omega)).mpr q9)
                    refine lv_aload_n hx hb dMo_warps_31 rfl (lv_at hl 0 rfl) ?_
                    refine va_get (D := (dC, dI)) (ci := 8) (v := .ref (b 11)) (C := RMo) (T := TMo) (N := 27) hx hb hts inMo hown hK hP 0 rfl rfl 22 (by decide) (hts _ tw_669) (fun _ h9 => h9) rfl dMo_warps_32 ?_
                    refine lv_iconst (v := nI 4) hx hb dMo_warps_35 (by decide +kernel) ?_
                    refine lv_iload_n hx hb dMo_warps_36 rfl (lv_at hl 1 rfl) ?_
                    refine lv_imul hx hb dMo_warps_37 ?_
                    refine rw_i (y := nI (4 * i)) (pk_mul _ _) ?_
                    refine lv_iload hx hb dMo_warps_38 (lv_at hl 4 rfl) ?_
                    refine lv_iadd hx hb dMo_warps_40 ?_
                    refine rw_i (y := nI ((4 * i) + bb)) (nI_add _ _) ?_
                    refine rw_ald_d hx hb hK hP 11 1 rfl rfl (by omega) (by decide) dMo_warps_41 ?_
                    refine rw_d (y := D 4 ((4 * i) + bb)) (by rw [us_o _ _ (by decide)]) ?_
                    refine lv_aload_n hx hb dMo_warps_42 rfl (lv_at hl 0 rfl) ?_
                    refine va_get (D := (dC, dI)) (ci := 8) (v := .ref (b 12)) (C := RMo) (T := TMo) (N := 27) hx hb hts inMo hown hK hP 0 rfl rfl 23 (by decide) (hts _ tw_670) (fun _ h9 => h9) rfl dMo_warps_43 ?_
                    refine lv_iconst (v := nI 4) hx hb dMo_warps_46 (by decide +kernel) ?_
                    refine lv_iload_n hx hb dMo_warps_47 rfl (lv_at hl 2 rfl) ?_
                    refine lv_imul hx hb dMo_warps_48 ?_
                    refine rw_i (y := nI (4 * j)) (pk_mul _ _) ?_
                    refine lv_iload hx hb dMo_warps_49 (lv_at hl 4 rfl) ?_
                    refine lv_iadd hx hb dMo_warps_51 ?_
                    refine rw_i (y := nI ((4 * j) + bb)) (nI_add _ _) ?_
                    refine rw_ald_d hx hb hK hP 12 1 rfl rfl (by omega) (by decide) dMo_warps_52 ?_
                    refine rw_d (y := D 5 ((4 * j) + bb)) (by rw [us_o _ _ (by decide)]) ?_
                    refine lv_dsub hx hb dMo_warps_53 (fb_n (hd_df_b (hx9 _ (by omega)) (hy9 _ (by omega))) (by decide)) ?_
                    refine lv_dstore (lv' := [(6, .double (FP.dsub (D 4 ((4 * i) + bb)) (D 5 ((4 * j) + bb)))), (0, .ref (b 0)), (1, .int (nI i)), (2, .int (nI j)), (3, .double (hd_far (fun q => D 4 (4 * i + q)) (fun q => D 5 (4 * j + q)) bb)), (5, .int (nI bb))]) hx hb dMo_warps_54 hl (by decide) rfl (fun ls hl => ?_)
                    refine lv_dload_n hx hb dMo_warps_56 rfl (lv_at hl 4 rfl) ?_
                    refine lv_dload hx hb dMo_warps_57 (lv_at hl 0 rfl) ?_
                    refine lv_dload hx hb dMo_warps_59 (lv_at hl 0 rfl) ?_
                    refine lv_dmul hx hb dMo_warps_61 (fb_n (hd_dd_b (hx9 _ (by omega)) (hy9 _ (by omega))) (by decide)) ?_
                    refine lv_dadd hx hb dMo_warps_62 (fb_n (hd_far_b (a := fun q => D 4 (4 * i + q)) (b := fun q => D 5 (4 * j + q)) (fun q hq => hx9 _ (by omega)) (fun q hq => hy9 _ (by omega)) (bb + 1) (by omega)) (by omega)) ?_
                    refine rw_d (y := hd_far (fun q => D 4 (4 * i + q)) (fun q => D 5 (4 * j + q)) (bb + 1)) rfl ?_
                    refine lv_dstore_n (lv' := [(3, .double (hd_far (fun q => D 4 (4 * i + q)) (fun q => D 5 (4 * j + q)) (bb + 1))), (6, .double (FP.dsub (D 4 ((4 * i) + bb)) (D 5 ((4 * j) + bb)))), (0, .ref (b 0)), (1, .int (nI i)), (2, .int (nI j)), (5, .int (nI bb))]) hx hb dMo_warps_63 rfl hl (by decide) rfl (fun ls hl => ?_)
                    refine lv_iinc (v := nI (bb + 1)) (lv' := [(5, .int (nI (bb + 1))), (3, .double (hd_far (fun q => D 4 (4 * i + q)) (fun q => D 5 (4 * j + q)) (bb + 1))), (6, .double (FP.dsub (D 4 ((4 * i) + bb)) (D 5 ((4 * j) + bb)))), (0, .ref (b 0)), (1, .int (nI i)), (2, .int (nI j))]) hx hb dMo_warps_64 hl (k := 5) rfl (nI_1 _) (by decide) rfl (fun ls hl => ?_)
                    refine lv_goto (tgt := 25) hx hb dMo_warps_67 (by decide) ?_
                    exact ih25 (bb + 1) (by omega) (by omega) _ _ hP hD hS ls (lv_sub hl [3, 4, 5, 1, 0] rfl)
              exact L25 _ 0 (Nat.lt_succ_self _) (by omega) _ _ hP hD hS ls (lv_sub hl [2, 3, 4, 1, 0] rfl)
        exact L12 _ 0 v (Nat.lt_succ_self _) (by omega) (fun a c h hc => hv a c (by omega) hc) _ _ hP hD hS ls (lv_sub hl [1, 2, 0] rfl)
  exact L2 _ 0 (D 6) (Nat.lt_succ_self _) (by omega) (fun a c h hc => by omega) _ _ hP hD hS ls (lv_sub hl [1, 0] rfl)
set_option maxHeartbeats 4000000 in
set_option maxRecDepth 100000 in
theorem kMo_warp (l : Launch) (dC : Nat → ClassId) (dI : Nat → Nat → Nat) (k : Nat → ClassId) (b : Nat → Nat) (I : Nat → Nat → Int32) (D : Nat → Nat → UInt64) (sz : Nat) (k9 j9 : Int32) (np : Nat) (rw9 : Nat → Nat) (hn : np ≤ 6) (h5 : I 0 5 = nI np) (hr9 : ∀ j, j < np → I 3 j = nI (rw9 j) ∧ 1 ≤ rw9 j ∧ rw9 j ≤ 8) (hl9 : ∀ j, j < np → ∀ q, q < 4 * rw9 j → fb_ 1155 (D 2 (32 * j + q))) : Met l yMo_warp wMo_warp ({ frames := 1, cells := 0, slots := 0, locals := 27 }) (va_Pc [.ref (b 0), .int k9, .int j9] (ct_pre (dC, dI) (mo_ty k) (fun _ => True) (wm k b I D) sz)) (va_Qd (fun r (u : (Nat → Nat → Int32) × (Nat → Nat → UInt64)) => ((¬ ((∃ j, j < np ∧ k9 = nI j) ∧ ∃ j, j < np ∧ j9 = nI j)) ∧ u = (ui (ui I 0 0 (nI 0)) 0 0 (nI 1), D)) ∨ (∃ x, x < np ∧ k9 = nI x ∧ ∃ y, y < np ∧ j9 = nI y ∧ u.1 = ui (ui (ui I 0 0 (nI 0)) 0 8 (nI (rw9 x))) 0 9 (nI (rw9 y)) ∧ (∀ c, c ≠ 4 → c ≠ 5 → c ≠ 6 → u.2 c = D c) ∧ r = hw_wa (fun q => D 2 (32 * x + q)) (fun q => D 2 (32 * y + q)) (rw9 x) (rw9 y))) (fun u t => ct_at (dC, dI) (va_A (wm k b I D) sz) ((fun u => wm k b u.1 u.2) u) t) (va_A (wm k b I D) sz)) 0 0 (va_A (wm k b I D) sz) := by
  refine Met.ofW (cc := cMo_warp) (maxL := 3) (ret := (some .double)) (by decide) rfl ?_
  intro p e s m args below meth c s₁ B hml hv
  obtain ⟨rfl, hsz, hP, hK, hD0, hE⟩ := hv
  have hx := B.exec
  have hb := B.bytes
  have hr := B.returns
  have hts : ∀ w ∈ W0, w.before [.ref (b 0), .int k9, .int j9].toArray s = true := fun w h => atoms_spec (ws := wMo_warp) B.pre w (List.mem_cons_of_mem _ h)
  have hown : s.vm.findClass RMo = some m.cls := findClass_of_methodNamed B.named
  have hlocks := B.notSynchronized
  subst hsz
  have hD := hD0.self (sz := s.heap.size)
  generalize hAe : va_A (wm k b I D) s.heap.size = A at hD ⊢
  have hA : ∀ q : Nat, s.heap.size ≤ q → A q := fun q h => by rw [← hAe]; exact Or.inr h
  have hS : va_S A s.heap s.heap [] := va_S.rf
  have hl := lv_entry ([.ref (b 0), .int k9, .int j9]) (n := 3) (Nat.le_of_ble_eq_true rfl)
  rw [lg_entry_eq]
  generalize (lg_sl ([.ref (b 0), .int k9, .int j9]) ++ List.replicate (3 - (lg_sl ([.ref (b 0), .int k9, .int j9])).length) Slot.unset).toArray = ls at hl ⊢
  have hl : lv_has ls 3 [(0, .ref (b 0)), (1, .int k9), (2, .int j9)] := hl
  refine lv_aload_n hx hb dMo_warp_0 rfl (lv_at hl 0 rfl) ?_
  refine lv_iconst (v := nI 0) hx hb dMo_warp_1 (by decide +kernel) ?_
  refine va_put (D := (dC, dI)) (ci := 8) (fs := mo_f b I D) (v := .int (nI 0)) (ty := .int) (C := RMo) (T := TMo) (N := 27) hx hb hts inMo tyMo tyMo_ok nmMo hown hK hP hD hS 0 rfl rfl 0 (by decide) (hts _ tw_647) (fun _ h9 => h9) rfl (by decide +kernel) rfl rfl (Nat.le_of_ble_eq_true rfl) dMo_warp_2 (fun H locs hP hD hS => ?_)
  rw [wm_p0] at hP hD
  obtain ⟨I1, eI1⟩ : ∃ z, z = ui I 0 0 (nI 0) := ⟨_, rfl⟩
  rw [← eI1] at hP hD
  refine lv_aload_n hx hb dMo_warp_5 rfl (lv_at hl 0 rfl) ?_
  refine lv_iload_n hx hb dMo_warp_6 rfl (lv_at hl 1 rfl) ?_
  refine lv_i2l (v := k9.toInt64) hx hb dMo_warp_7 rfl ?_
  refine lv_lconst (v := lN 0) hx hb dMo_warp_8 (by decide +kernel) ?_
  refine lv_aload_n hx hb dMo_warp_9 rfl (lv_at hl 0 rfl) ?_
  refine va_get (D := (dC, dI)) (ci := 8) (v := .int (I1 0 5)) (C := RMo) (T := TMo) (N := 27) hx hb hts inMo hown hK hP 0 rfl rfl 5 (by decide) (hts _ tw_652) (fun _ h9 => h9) rfl dMo_warp_10 ?_
  refine rw_i (y := I 0 5) (by rw [eI1, ui_n _ _ _ (by decide)]) ?_
  refine rw_i (y := nI np) h5 ?_
  refine lv_iconst (v := nI 1) hx hb dMo_warp_13 (by decide +kernel) ?_
  refine lv_isub hx hb dMo_warp_14 ?_
  refine lv_i2l (v := ((nI np) - (nI 1)).toInt64) hx hb dMo_warp_15 rfl ?_
  refine ct_i (va_runS (As := [.long k9.toInt64, .long (lN 0), .long (((nI np) - (nI 1)).toInt64)]) (rest := [.ref (b 0)]) ⟨hx, hb, hml, hown, hts⟩ (kMo_in l dC dI k b I1 D _ k9.toInt64 (lN 0) (((nI np) - (nI 1)).toInt64)) (va_cwS 3 hts (gw_S tw_734 tw_735 tw_9 tw_736) rfl rfl rfl (by decide +kernel) ⟨Nat.le_of_ble_eq_true rfl, Nat.le_of_ble_eq_true rfl⟩) ⟨ct_blind (ev := fun _ => True) (fun _ _ _ _ h => h), ct_now (ev := fun _ => True) (fun _ _ _ => trivial) hP hK hD⟩ rfl rfl hl.1 rfl (lv_room (Nat.le_of_ble_eq_true rfl)) dMo_warp_16 ⟨Nat.le_of_ble_eq_true rfl, Nat.le_of_ble_eq_true rfl⟩) hD hS hA (fun r2 u2 H locs hw2 hP hD hS => ?_)
  by_cases g16 : lN 0 ≤ k9.toInt64 ∧ k9.toInt64 ≤ ((nI np) - (nI 1)).toInt64
  · rw [if_pos g16] at hw2
    subst hw2
    refine rw_i (y := nI 1) rfl ?_
    obtain ⟨x, hx1, rfl⟩ := in_0n (Nat.le_trans hn (by decide)) g16
    refine lv_if_eq (tgt := 38) hx hb dMo_warp_19 (by decide) (fun c19 => ?_) (fun c19 => ?_)
    · have c19 : 1 = 0 := (nI_eq (a := 1) (b := 0) (by omega) (by omega)).mp (show nI 1 = nI 0 from c19)
      exact absurd c19 (by decide)
    · have c19 : ¬ 1 = 0 := fun q9 => c19 (show nI 1 = nI 0 from (nI_eq (a := 1) (b := 0) (by omega) (by omega)).mpr q9)
      refine lv_iload_n hx hb dMo_warp_22 rfl (lv_at hl 2 rfl) ?_
      refine lv_i2l (v := j9.toInt64) hx hb dMo_warp_23 rfl ?_
      refine lv_lconst (v := lN 0) hx hb dMo_warp_24 (by decide +kernel) ?_
      refine lv_aload_n hx hb dMo_warp_25 rfl (lv_at hl 0 rfl) ?_
      refine va_get (D := (dC, dI)) (ci := 8) (v := .int (I1 0 5)) (C := RMo) (T := TMo) (N := 27) hx hb hts inMo hown hK hP 0 rfl rfl 5 (by decide) (hts _ tw_652) (fun _ h9 => h9) rfl dMo_warp_26 ?_
      refine rw_i (y := I 0 5) (by rw [eI1, ui_n _ _ _ (by decide)]) ?_
      refine rw_i (y := nI np) h5 ?_
      refine lv_iconst (v := nI 1) hx hb dMo_warp_29 (by decide +kernel) ?_
      refine lv_isub hx hb dMo_warp_30 ?_
      refine lv_i2l (v := ((nI np) - (nI 1)).toInt64) hx hb dMo_warp_31 rfl ?_
      refine ct_i (va_runS (As := [.long j9.toInt64, .long (lN 0), .long (((nI np) - (nI 1)).toInt64)]) (rest := [.ref (b 0)]) ⟨hx, hb, hml, hown, hts⟩ (kMo_in l dC dI k b I1 D _ j9.toInt64 (lN 0) (((nI np) - (nI 1)).toInt64)) (va_cwS 3 hts (gw_S tw_734 tw_735 tw_9 tw_736) rfl rfl rfl (by decide +kernel) ⟨Nat.le_of_ble_eq_true rfl, Nat.le_of_ble_eq_true rfl⟩) ⟨ct_blind (ev := fun _ => True) (fun _ _ _ _ h => h), ct_now (ev := fun _ => True) (fun _ _ _ => trivial) hP hK hD⟩ rfl rfl hl.1 rfl (lv_room (Nat.le_of_ble_eq_true rfl)) dMo_warp_32 ⟨Nat.le_of_ble_eq_true rfl, Nat.le_of_ble_eq_true rfl⟩) hD hS hA (fun r3 u3 H locs hw3 hP hD hS => ?_)
      by_cases g32 : lN 0 ≤ j9.toInt64 ∧ j9.toInt64 ≤ ((nI np) - (nI 1)).toInt64
      · rw [if_pos g32] at hw3
        subst hw3
        refine rw_i (y := nI 1) rfl ?_
        obtain ⟨y, hy1, rfl⟩ := in_0n (Nat.le_trans hn (by decide)) g32
        refine lv_if_ne (tgt := 42) hx hb dMo_warp_35 (by decide) (fun c35 => ?_) (fun c35 => ?_)
        · have c35 : ¬ 1 = 0 := fun q9 => c35 (show nI 1 = nI 0 from (nI_eq (a := 1) (b := 0) (by omega) (by omega)).mpr q9)
          refine lv_iconst (v := nI 0) hx hb dMo_warp_42 (by decide +kernel) ?_
          refine lv_iconst (v := nI 1) hx hb dMo_warp_43 (by decide +kernel) ?_
          refine ct_i (va_runV (As := [.int (nI 0), .int (nI 1)]) (rest := []) ⟨hx, hb, hml, hown, hts⟩ (kMo_fails0 l dC dI k b I1 D _ (nI 1) (by rw [eI1, ui_s])) (cwV 2 hts (gw_V tw_737 tw_739 sl_Mo_fails tw_9 tw_740) rfl rfl rfl (by decide +kernel) ⟨Nat.le_of_ble_eq_true rfl, Nat.le_of_ble_eq_true rfl⟩) ⟨ct_blind (ev := fun _ => True) (fun _ _ _ _ h => h), va_recv hK hP (ci := 8) (q0 := 0) rfl rfl, ct_now (ev := fun _ => True) (fun _ _ _ => trivial) hP hK hD⟩ rfl rfl hl.1 rfl (lv_room (Nat.le_of_ble_eq_true rfl)) dMo_warp_44 ⟨Nat.le_of_ble_eq_true rfl, Nat.le_of_ble_eq_true rfl⟩) hD hS hA (fun r4 u4 H locs hw4 hP hD hS => ?_)
          subst hw4
          refine lv_if_eq (tgt := 52) hx hb dMo_warp_47 (by decide) (fun c47 => ?_) (fun c47 => ?_)
          · have c47 : 0 = 0 := (nI_eq (a := 0) (b := 0) (by omega) (by omega)).mp (show nI 0 = nI 0 from c47)
            refine lv_aload_n hx hb dMo_warp_52 rfl (lv_at hl 0 rfl) ?_
            refine lv_aload_n hx hb dMo_warp_53 rfl (lv_at hl 0 rfl) ?_
            refine va_get (D := (dC, dI)) (ci := 8) (v := .ref (b 11)) (C := RMo) (T := TMo) (N := 27) hx hb hts inMo hown hK hP 0 rfl rfl 22 (by decide) (hts _ tw_669) (fun _ h9 => h9) rfl dMo_warp_54 ?_
            refine lv_iload_n hx hb dMo_warp_57 rfl (lv_at hl 1 rfl) ?_
            refine ct_v (va_runV (As := [.ref (b 11), .int (nI x)]) (rest := []) ⟨hx, hb, hml, hown, hts⟩ (kMo_takes1 l dC dI k b I1 D _ x (by omega)) (cwV 2 hts (gw_V tw_838 tw_840 sl_Mo_takes tw_9 tw_841) rfl rfl rfl (by decide +kernel) ⟨Nat.le_of_ble_eq_true rfl, Nat.le_of_ble_eq_true rfl⟩) ⟨ct_blind (ev := fun _ => True) (fun _ _ _ _ h => h), va_recv hK hP (ci := 8) (q0 := 0) rfl rfl, ct_now (ev := fun _ => True) (fun _ _ _ => trivial) hP hK hD⟩ rfl rfl hl.1 rfl (lv_room (Nat.le_of_ble_eq_true rfl)) dMo_warp_58 ⟨Nat.le_of_ble_eq_true rfl, Nat.le_of_ble_eq_true rfl⟩) hD hS hA (fun u5 H locs hw5 hP hD hS => ?_)
            have t4 := hw5
            refine lv_aload_n hx hb dMo_warp_61 rfl (lv_at hl 0 rfl) ?_
            refine lv_aload_n hx hb dMo_warp_62 rfl (lv_at hl 0 rfl) ?_
            refine va_get (D := (dC, dI)) (ci := 8) (v := .ref (b 12)) (C := RMo) (T := TMo) (N := 27) hx hb hts inMo hown hK hP 0 rfl rfl 23 (by decide) (hts _ tw_670) (fun _ h9 => h9) rfl dMo_warp_63 ?_
            refine lv_iload_n hx hb dMo_warp_66 rfl (lv_at hl 2 rfl) ?_
            refine ct_v (va_runV (As := [.ref (b 12), .int (nI y)]) (rest := []) ⟨hx, hb, hml, hown, hts⟩ (kMo_takes2 l dC dI k b I1 (us D 4 u5) _ y (by omega)) (cwV 2 hts (gw_V tw_838 tw_840 sl_Mo_takes tw_9 tw_841) rfl rfl rfl (by decide +kernel) ⟨Nat.le_of_ble_eq_true rfl, Nat.le_of_ble_eq_true rfl⟩) ⟨ct_blind (ev := fun _ => True) (fun _ _ _ _ h => h), va_recv hK hP (ci := 8) (q0 := 0) rfl rfl, ct_now (ev := fun _ => True) (fun _ _ _ => trivial) hP hK hD⟩ rfl rfl hl.1 rfl (lv_room (Nat.le_of_ble_eq_true rfl)) dMo_warp_67 ⟨Nat.le_of_ble_eq_true rfl, Nat.le_of_ble_eq_true rfl⟩) hD hS hA (fun u6 H locs hw6 hP hD hS => ?_)
            have t5 := hw6
            refine lv_aload_n hx hb dMo_warp_70 rfl (lv_at hl 0 rfl) ?_
            refine lv_aload_n hx hb dMo_warp_71 rfl (lv_at hl 0 rfl) ?_
            refine va_get (D := (dC, dI)) (ci := 8) (v := .ref (b 3)) (C := RMo) (T := TMo) (N := 27) hx hb hts inMo hown hK hP 0 rfl rfl 14 (by decide) (hts _ tw_661) (fun _ h9 => h9) rfl dMo_warp_72 ?_
            refine lv_iload_n hx hb dMo_warp_75 rfl (lv_at hl 1 rfl) ?_
            refine rw_ald_i hx hb hK hP 3 0 rfl rfl (by omega) (by decide) dMo_warp_76 ?_
            refine rw_i (y := I 3 x) (by rw [eI1, ui_o _ _ _ (by decide)]) ?_
            refine rw_i (y := nI (rw9 x)) ((hr9 x hx1).1) ?_
            refine va_put (D := (dC, dI)) (ci := 8) (fs := mo_f b I1 (us (us D 4 u5) 5 u6)) (v := .int (nI (rw9 x))) (ty := .int) (C := RMo) (T := TMo) (N := 27) hx hb hts inMo tyMo tyMo_ok nmMo hown hK hP hD hS 0 rfl rfl 8 (by decide) (hts _ tw_655) (fun _ h9 => h9) rfl (by decide +kernel) rfl rfl (Nat.le_of_ble_eq_true rfl) dMo_warp_77 (fun H locs hP hD hS => ?_)
            rw [wm_p8] at hP hD
            obtain ⟨I7, eI7⟩ : ∃ z, z = ui I1 0 8 (nI (rw9 x)) := ⟨_, rfl⟩
            rw [← eI7] at hP hD
            refine lv_aload_n hx hb dMo_warp_80 rfl (lv_at hl 0 rfl) ?_
            refine lv_aload_n hx hb dMo_warp_81 rfl (lv_at hl 0 rfl) ?_
            refine va_get (D := (dC, dI)) (ci := 8) (v := .ref (b 3)) (C := RMo) (T := TMo) (N := 27) hx hb hts inMo hown hK hP 0 rfl rfl 14 (by decide) (hts _ tw_661) (fun _ h9 => h9) rfl dMo_warp_82 ?_
            refine lv_iload_n hx hb dMo_warp_85 rfl (lv_at hl 2 rfl) ?_
            refine rw_ald_i hx hb hK hP 3 0 rfl rfl (by omega) (by decide) dMo_warp_86 ?_
            refine rw_i (y := I 3 y) (by rw [eI7, ui_o _ _ _ (by decide), eI1, ui_o _ _ _ (by decide)]) ?_
            refine rw_i (y := nI (rw9 y)) ((hr9 y hy1).1) ?_
            refine va_put (D := (dC, dI)) (ci := 8) (fs := mo_f b I7 (us (us D 4 u5) 5 u6)) (v := .int (nI (rw9 y))) (ty := .int) (C := RMo) (T := TMo) (N := 27) hx hb hts inMo tyMo tyMo_ok nmMo hown hK hP hD hS 0 rfl rfl 9 (by decide) (hts _ tw_656) (fun _ h9 => h9) rfl (by decide +kernel) rfl rfl (Nat.le_of_ble_eq_true rfl) dMo_warp_87 (fun H locs hP hD hS => ?_)
            rw [wm_p9] at hP hD
            obtain ⟨I8, eI8⟩ : ∃ z, z = ui I7 0 9 (nI (rw9 y)) := ⟨_, rfl⟩
            rw [← eI8] at hP hD
            refine lv_aload_n hx hb dMo_warp_90 rfl (lv_at hl 0 rfl) ?_
            refine ct_d (va_runV (As := []) (rest := []) ⟨hx, hb, hml, hown, hts⟩ (kMo_warps l dC dI k b I8 (us (us D 4 u5) 5 u6) _ (rw9 x) (rw9 y) (hr9 x hx1).2.1 (by have := (hr9 x hx1).2.2; omega) (hr9 y hy1).2.1 (hr9 y hy1).2.2 (by rw [eI8, ui_n _ _ _ (by decide), eI7, ui_s]) (by rw [eI8, ui_s]) (fun q hq => by have := (hr9 x hx1).2.2; rw [us_o _ _ (by decide), us_c, t4 q (by omega)]; exact hl9 x hx1 q hq) (fun q hq => by have := (hr9 y hy1).2.2; rw [us_c, t5 q (by omega), us_o _ _ (by decide)]; exact hl9 y hy1 q hq)) (cwV 0 hts (gw_V tw_842 tw_844 sl_Mo_warps tw_9 tw_845) rfl rfl rfl (by decide +kernel) ⟨Nat.le_of_ble_eq_true rfl, Nat.le_of_ble_eq_true rfl⟩) ⟨ct_blind (ev := fun _ => True) (fun _ _ _ _ h => h), va_recv hK hP (ci := 8) (q0 := 0) rfl rfl, ct_now (ev := fun _ => True) (fun _ _ _ => trivial) hP hK hD⟩ rfl rfl hl.1 rfl (lv_room (Nat.le_of_ble_eq_true rfl)) dMo_warp_91 ⟨Nat.le_of_ble_eq_true rfl, Nat.le_of_ble_eq_true rfl⟩) hD hS hA (fun r9 u9 H locs hw9 hP hD hS => ?_)
            subst hw9
            exact ct_rd hx hb hr hlocks (I8, (us (us (us D 4 u5) 5 u6) 6 u9)) (Or.inr ⟨x, hx1, rfl, y, hy1, rfl, by rw [eI8, eI7, eI1], fun c z4 z5 z6 => (us_o _ _ z6).trans ((us_o _ _ z5).trans (us_o _ _ z4)), hw_wa_g (fun q hq => by have := (hr9 x hx1).2.2; rw [us_o _ _ (by decide), us_c, t4 q (by omega)]) (fun q hq => by have := (hr9 y hy1).2.2; rw [us_c, t5 q (by omega), us_o _ _ (by decide)]) (hr9 x hx1).2.1 (hr9 y hy1).2.1⟩) hP hD hS (Nat.le_refl _) (Nat.le_refl _) dMo_warp_94
          · have c47 : ¬ 0 = 0 := fun q9 => c47 (show nI 0 = nI 0 from (nI_eq (a := 0) (b := 0) (by omega) (by omega)).mpr q9)
            exact absurd (by decide) c47
        · have c35 : 1 = 0 := (nI_eq (a := 1) (b := 0) (by omega) (by omega)).mp (show nI 1 = nI 0 from c35)
          exact absurd c35 (by decide)
      · rw [if_neg g32] at hw3
        subst hw3
        refine rw_i (y := nI 0) rfl ?_
        refine lv_if_ne (tgt := 42) hx hb dMo_warp_35 (by decide) (fun c35 => ?_) (fun c35 => ?_)
        · have c35 : ¬ 0 = 0 := fun q9 => c35 (show nI 0 = nI 0 from (nI_eq (a := 0) (b := 0) (by omega) (by omega)).mpr q9)
          exact absurd (by decide) c35
        · have c35 : 0 = 0 := (nI_eq (a := 0) (b := 0) (by omega) (by omega)).mp (show nI 0 = nI 0 from c35)
          refine lv_iconst (v := nI 1) hx hb dMo_warp_38 (by decide +kernel) ?_
          refine lv_goto (tgt := 43) hx hb dMo_warp_39 (by decide) ?_
          refine lv_iconst (v := nI 1) hx hb dMo_warp_43 (by decide +kernel) ?_
          refine ct_i (va_runV (As := [.int (nI 1), .int (nI 1)]) (rest := []) ⟨hx, hb, hml, hown, hts⟩ (kMo_fails1 l dC dI k b I1 D _ 1 (by omega) (by omega) (by rw [eI1, ui_s])) (cwV 2 hts (gw_V tw_737 tw_739 sl_Mo_fails tw_9 tw_740) rfl rfl rfl (by decide +kernel) ⟨Nat.le_of_ble_eq_true rfl, Nat.le_of_ble_eq_true rfl⟩) ⟨ct_blind (ev := fun _ => True) (fun _ _ _ _ h => h), va_recv hK hP (ci := 8) (q0 := 0) rfl rfl, ct_now (ev := fun _ => True) (fun _ _ _ => trivial) hP hK hD⟩ rfl rfl hl.1 rfl (lv_room (Nat.le_of_ble_eq_true rfl)) dMo_warp_44 ⟨Nat.le_of_ble_eq_true rfl, Nat.le_of_ble_eq_true rfl⟩) hD hS hA (fun r10 u10 H locs hw10 hP hD hS => ?_)
          obtain ⟨r10e, eu10⟩ := hw10
          subst r10e
          refine lv_if_eq (tgt := 52) hx hb dMo_warp_47 (by decide) (fun c47 => ?_) (fun c47 => ?_)
          · have c47 : 1 = 0 := (nI_eq (a := 1) (b := 0) (by omega) (by omega)).mp (show nI 1 = nI 0 from c47)
            exact absurd c47 (by decide)
          · have c47 : ¬ 1 = 0 := fun q9 => c47 (show nI 1 = nI 0 from (nI_eq (a := 1) (b := 0) (by omega) (by omega)).mpr q9)
            refine lv_dconst0 hx hb dMo_warp_50 ?_
            refine rw_d (y := 0) rfl ?_
            exact ct_rd hx hb hr hlocks (u10, D) (Or.inl ⟨by first | (exact fun z => g16 (in_n0 (Nat.le_trans hn (by decide)) z.1)) | (exact fun z => g32 (in_n0 (Nat.le_trans hn (by decide)) z.2)), by rw [eu10, eI1]⟩) hP hD hS (Nat.le_refl _) (Nat.le_refl _) dMo_warp_51
  · rw [if_neg g16] at hw2
    subst hw2
    refine rw_i (y := nI 0) rfl ?_
    refine lv_if_eq (tgt := 38) hx hb dMo_warp_19 (by decide) (fun c19 => ?_) (fun c19 => ?_)
    · have c19 : 0 = 0 := (nI_eq (a := 0) (b := 0) (by omega) (by omega)).mp (show nI 0 = nI 0 from c19)
      refine lv_iconst (v := nI 1) hx hb dMo_warp_38 (by decide +kernel) ?_
      refine lv_goto (tgt := 43) hx hb dMo_warp_39 (by decide) ?_
      refine lv_iconst (v := nI 1) hx hb dMo_warp_43 (by decide +kernel) ?_
      refine ct_i (va_runV (As := [.int (nI 1), .int (nI 1)]) (rest := []) ⟨hx, hb, hml, hown, hts⟩ (kMo_fails1 l dC dI k b I1 D _ 1 (by omega) (by omega) (by rw [eI1, ui_s])) (cwV 2 hts (gw_V tw_737 tw_739 sl_Mo_fails tw_9 tw_740) rfl rfl rfl (by decide +kernel) ⟨Nat.le_of_ble_eq_true rfl, Nat.le_of_ble_eq_true rfl⟩) ⟨ct_blind (ev := fun _ => True) (fun _ _ _ _ h => h), va_recv hK hP (ci := 8) (q0 := 0) rfl rfl, ct_now (ev := fun _ => True) (fun _ _ _ => trivial) hP hK hD⟩ rfl rfl hl.1 rfl (lv_room (Nat.le_of_ble_eq_true rfl)) dMo_warp_44 ⟨Nat.le_of_ble_eq_true rfl, Nat.le_of_ble_eq_true rfl⟩) hD hS hA (fun r11 u11 H locs hw11 hP hD hS => ?_)
      obtain ⟨r11e, eu11⟩ := hw11
      subst r11e
      refine lv_if_eq (tgt := 52) hx hb dMo_warp_47 (by decide) (fun c47 => ?_) (fun c47 => ?_)
      · have c47 : 1 = 0 := (nI_eq (a := 1) (b := 0) (by omega) (by omega)).mp (show nI 1 = nI 0 from c47)
        exact absurd c47 (by decide)
      · have c47 : ¬ 1 = 0 := fun q9 => c47 (show nI 1 = nI 0 from (nI_eq (a := 1) (b := 0) (by omega) (by omega)).mpr q9)
        refine lv_dconst0 hx hb dMo_warp_50 ?_
        refine rw_d (y := 0) rfl ?_
        exact ct_rd hx hb hr hlocks (u11, D) (Or.inl ⟨by first | (exact fun z => g16 (in_n0 (Nat.le_trans hn (by decide)) z.1)) | (exact fun z => g32 (in_n0 (Nat.le_trans hn (by decide)) z.2)), by rw [eu11, eI1]⟩) hP hD hS (Nat.le_refl _) (Nat.le_refl _) dMo_warp_51
    · have c19 : ¬ 0 = 0 := fun q9 => c19 (show nI 0 = nI 0 from (nI_eq (a := 0) (b := 0) (by omega) (by omega)).mpr q9)
      exact absurd (by decide) c19
