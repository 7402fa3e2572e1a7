set_option maxHeartbeats 4000000 in
set_option maxRecDepth 100000 in
theorem kMo_powerOf (l : Launch) (dC : Nat → ClassId) (dI : Nat → Nat → Nat) (k : Nat → ClassId) (b : Nat → Nat) (I : Nat → Nat → Int32) (D : Nat → Nat → UInt64) (sz : Nat) (f kk : Nat) (hf : 16 * f + 32 ≤ 320) (hk : kk ≤ 16) (hs : ∀ i, i < 32 → fb_ 1057 (D 1 (16 * f + i))) (hc : ∀ j, j < 32 → D 7 j = hd_C j) (hsn : ∀ j, j < 32 → D 8 j = hd_S j) : Met l yMo_powerOf wMo_powerOf ({ frames := 0, cells := 0, slots := 0, locals := 0 }) (va_Pc [.ref (b 0), .int (nI f), .int (nI kk)] (ct_pre (dC, dI) (mo_ty k) (fun _ => True) (wm k b I D) sz)) (va_Qd (fun r (_ : Unit) => r = hd_P (D 1) f kk) (fun u t => ct_at (dC, dI) (va_A (wm k b I D) sz) ((fun _ => wm k b I D) u) t) (va_A (wm k b I D) sz)) 0 0 (va_A (wm k b I D) sz) := by
  refine Met.ofW (cc := cMo_powerOf) (maxL := 10) (ret := (some .double)) (by decide) rfl ?_
  intro p e s m args below meth c s₁ B hml hv
  obtain ⟨rfl, hsz, hP, hK, hD0, hE⟩ := hv
  have hx := B.exec
  have hb := B.bytes
  have hr := B.returns
  have hts : ∀ w ∈ W0, w.before [.ref (b 0), .int (nI f), .int (nI kk)].toArray s = true := fun w h => atoms_spec (ws := wMo_powerOf) B.pre w (List.mem_cons_of_mem _ h)
  have hown : s.vm.findClass RMo = some m.cls := findClass_of_methodNamed B.named
  have hlocks := B.notSynchronized
  subst hsz
  have hD := hD0.self (sz := s.heap.size)
  generalize hAe : va_A (wm k b I D) s.heap.size = A at hD ⊢
  have hA : ∀ q : Nat, s.heap.size ≤ q → A q := fun q h => by rw [← hAe]; exact Or.inr h
  have hS : va_S A s.heap s.heap [] := va_S.rf
  have hl := lv_entry ([.ref (b 0), .int (nI f), .int (nI kk)]) (n := 10) (Nat.le_of_ble_eq_true rfl)
  rw [lg_entry_eq]
  generalize (lg_sl ([.ref (b 0), .int (nI f), .int (nI kk)]) ++ List.replicate (10 - (lg_sl ([.ref (b 0), .int (nI f), .int (nI kk)])).length) Slot.unset).toArray = ls at hl ⊢
  have hl : lv_has ls 10 [(0, .ref (b 0)), (1, .int (nI f)), (2, .int (nI kk))] := hl
  refine lp_q (fun Q9 hQ9 => ?_)
  refine lv_dconst0 hx hb dMo_powerOf_0 ?_
  refine rw_d (y := 0) rfl ?_
  refine lv_dstore_n (lv' := [(3, .double 0), (0, .ref (b 0)), (1, .int (nI f)), (2, .int (nI kk))]) hx hb dMo_powerOf_1 rfl hl (by decide) rfl (fun ls hl => ?_)
  refine lv_dconst0 hx hb dMo_powerOf_2 ?_
  refine rw_d (y := 0) rfl ?_
  refine lv_dstore (lv' := [(5, .double 0), (3, .double 0), (0, .ref (b 0)), (1, .int (nI f)), (2, .int (nI kk))]) hx hb dMo_powerOf_3 hl (by decide) rfl (fun ls hl => ?_)
  refine lv_iconst (v := nI 0) hx hb dMo_powerOf_5 (by decide +kernel) ?_
  refine lv_istore (lv' := [(7, .int (nI 0)), (5, .double 0), (3, .double 0), (0, .ref (b 0)), (1, .int (nI f)), (2, .int (nI kk))]) hx hb dMo_powerOf_6 hl (by decide) rfl (fun ls hl => ?_)
  have L8 : ∀ (n8 : Nat) (i : Nat), 32 - i < n8 → i ≤ 32 → ∀ (H : Heap) (locs : List Loc), va_P (dC, dI) vwCl (wm k b I D) H → va_D A (wm k b I D) → va_S A s.heap H locs → ∀ ls : Array Slot, lv_has ls 10 [(0, .ref (b 0)), (1, .int (nI f)), (2, .int (nI kk)), (3, .double (hd_re (D 1) f kk i)), (5, .double (hd_im (D 1) f kk i)), (7, .int (nI i))] → W p l e (headSpec wMo_powerOf ({ frames := 0, cells := 0, slots := 0, locals := 0 })).room s m [.ref (b 0), .int (nI f), .int (nI kk)].toArray below meth c H locs 0 0 Q9 (F0 m 8 ls []) := by
    intro n8
    induction n8 with
    | zero => intro i hm; exact absurd hm (Nat.not_lt_zero _)
    | succ n8 ih8 =>
      intro i hm8 hi H locs hP hD hS ls hl
      refine lv_iload hx hb dMo_powerOf_8 (lv_at hl 5 rfl) ?_
      refine lv_bipush (v := nI 32) hx hb dMo_powerOf_10 (by decide +kernel) ?_
      refine lv_icmp_ge (tgt := 89) hx hb dMo_powerOf_12 (by decide) (fun c12 => ?_) (fun c12 => ?_)
      · have c12 : 32 ≤ i := (nI_leI (a := 32) (b := i) (by omega) (by omega)).mp (show nI 32 ≤ nI i from c12)
        obtain rfl : i = 32 := by omega
        refine lv_dload_n hx hb dMo_powerOf_89 rfl (lv_at hl 3 rfl) ?_
        refine lv_dload_n hx hb dMo_powerOf_90 rfl (lv_at hl 3 rfl) ?_
        refine lv_dmul hx hb dMo_powerOf_91 (fb_n (hd_re2_b hs kk) (by decide)) ?_
        refine lv_dload hx hb dMo_powerOf_92 (lv_at hl 4 rfl) ?_
        refine lv_dload hx hb dMo_powerOf_94 (lv_at hl 4 rfl) ?_
        refine lv_dmul hx hb dMo_powerOf_96 (fb_n (hd_im2_b hs kk) (by decide)) ?_
        refine lv_dadd hx hb dMo_powerOf_97 (fb_n (hd_P_b hs kk) (by decide)) ?_
        refine rw_d (y := hd_P (D 1) f kk) rfl ?_
        rw [hQ9]
        exact ct_rd hx hb hr hlocks () rfl hP hD hS (Nat.le_refl _) (Nat.le_refl _) dMo_powerOf_98
      · have c12 : ¬ 32 ≤ i := fun q9 => c12 (show nI 32 ≤ nI i from (nI_leI (a := 32) (b := i) (by omega) (by omega)).mpr q9)
        refine lv_aload_n hx hb dMo_powerOf_15 rfl (lv_at hl 0 rfl) ?_
        refine va_get (D := (dC, dI)) (ci := 8) (v := .ref (b 8)) (C := RMo) (T := TMo) (N := 27) hx hb hts inMo hown hK hP 0 rfl rfl 19 (by decide) (hts _ tw_666) (fun _ h9 => h9) rfl dMo_powerOf_16 ?_
        refine lv_bipush (v := nI 16) hx hb dMo_powerOf_19 (by decide +kernel) ?_
        refine lv_iload_n hx hb dMo_powerOf_21 rfl (lv_at hl 1 rfl) ?_
        refine lv_imul hx hb dMo_powerOf_22 ?_
        refine rw_i (y := nI (16 * f)) (pk_mul _ _) ?_
        refine lv_iload hx hb dMo_powerOf_23 (lv_at hl 5 rfl) ?_
        refine lv_iadd hx hb dMo_powerOf_25 ?_
        refine rw_i (y := nI ((16 * f) + i)) (nI_add _ _) ?_
        refine rw_ald_d hx hb hK hP 8 1 rfl rfl (by omega) (by decide) dMo_powerOf_26 ?_
        refine lv_ldc2d (v := 4602678819172646912) hx hb hown (hts _ tw_798) dMo_powerOf_27 ?_
        refine rw_d (y := hd_h) rfl ?_
        refine lv_ldc2d (v := 4602678819172646912) hx hb hown (hts _ tw_798) dMo_powerOf_30 ?_
        refine rw_d (y := hd_h) rfl ?_
        refine lv_aload_n hx hb dMo_powerOf_33 rfl (lv_at hl 0 rfl) ?_
        refine va_get (D := (dC, dI)) (ci := 8) (v := .ref (b 14)) (C := RMo) (T := TMo) (N := 27) hx hb hts inMo hown hK hP 0 rfl rfl 25 (by decide) (hts _ tw_672) (fun _ h9 => h9) rfl dMo_powerOf_34 ?_
        refine lv_iload hx hb dMo_powerOf_37 (lv_at hl 5 rfl) ?_
        refine rw_ald_d hx hb hK hP 14 1 rfl rfl (by omega) (by decide) dMo_powerOf_39 ?_
        refine rw_d (y := hd_C i) (hc _ (by omega)) ?_
        refine lv_dmul hx hb dMo_powerOf_40 (fb_n (K := 1024) (hd_hc_b _ (by omega)) (by decide)) ?_
        refine lv_dsub hx hb dMo_powerOf_41 (fb_n (K := 1024) (hd_W_b i (by omega)) (by decide)) ?_
        refine rw_d (y := hd_W i) rfl ?_
        refine lv_dmul hx hb dMo_powerOf_42 (fb_n (hd_v_b hs (i := i) (by omega)) (by decide)) ?_
        refine rw_d (y := hd_v (D 1) f i) rfl ?_
        refine lv_dstore (lv' := [(8, .double (hd_v (D 1) f i)), (0, .ref (b 0)), (1, .int (nI f)), (2, .int (nI kk)), (3, .double (hd_re (D 1) f kk i)), (5, .double (hd_im (D 1) f kk i)), (7, .int (nI i))]) hx hb dMo_powerOf_43 hl (by decide) rfl (fun ls hl => ?_)
        refine lv_dload_n hx hb dMo_powerOf_45 rfl (lv_at hl 4 rfl) ?_
        refine lv_dload hx hb dMo_powerOf_46 (lv_at hl 0 rfl) ?_
        refine lv_aload_n hx hb dMo_powerOf_48 rfl (lv_at hl 1 rfl) ?_
        refine va_get (D := (dC, dI)) (ci := 8) (v := .ref (b 14)) (C := RMo) (T := TMo) (N := 27) hx hb hts inMo hown hK hP 0 rfl rfl 25 (by decide) (hts _ tw_672) (fun _ h9 => h9) rfl dMo_powerOf_49 ?_
        refine lv_iload_n hx hb dMo_powerOf_52 rfl (lv_at hl 3 rfl) ?_
        refine lv_iload hx hb dMo_powerOf_53 (lv_at hl 6 rfl) ?_
        refine lv_imul hx hb dMo_powerOf_55 ?_
        refine rw_i (y := nI (kk * i)) (pk_mul _ _) ?_
        refine lv_bipush (v := nI 32) hx hb dMo_powerOf_56 (by decide +kernel) ?_
        have hki : kk * i ≤ 16 * 32 := Nat.mul_le_mul hk (by omega)
        refine lv_irem hx hb dMo_powerOf_58 (by decide +kernel) ?_
        refine rw_i (y := nI ((kk * i) % 32)) (pk_rem (by omega) (by omega) (by omega)) ?_
        refine rw_ald_d hx hb hK hP 14 1 rfl rfl (Nat.mod_lt _ (by decide)) (by decide) dMo_powerOf_59 ?_
        refine rw_d (y := hd_C ((kk * i) % 32)) (hc _ (Nat.mod_lt _ (by decide))) ?_
        refine lv_dmul hx hb dMo_powerOf_60 (fb_n (hd_vc_b hs (i := i) (by omega) (Nat.mod_lt _ (by decide))) (by decide)) ?_
        refine lv_dadd hx hb dMo_powerOf_61 (fb_n (hd_re_b hs kk (i + 1) (by omega)) (by omega)) ?_
        refine rw_d (y := hd_re (D 1) f kk (i + 1)) rfl ?_
        refine lv_dstore_n (lv' := [(3, .double (hd_re (D 1) f kk (i + 1))), (8, .double (hd_v (D 1) f i)), (0, .ref (b 0)), (1, .int (nI f)), (2, .int (nI kk)), (5, .double (hd_im (D 1) f kk i)), (7, .int (nI i))]) hx hb dMo_powerOf_62 rfl hl (by decide) rfl (fun ls hl => ?_)
        refine lv_dload hx hb dMo_powerOf_63 (lv_at hl 5 rfl) ?_
        refine lv_dload hx hb dMo_powerOf_65 (lv_at hl 1 rfl) ?_
        refine lv_aload_n hx hb dMo_powerOf_67 rfl (lv_at hl 2 rfl) ?_
        refine va_get (D := (dC, dI)) (ci := 8) (v := .ref (b 15)) (C := RMo) (T := TMo) (N := 27) hx hb hts inMo hown hK hP 0 rfl rfl 26 (by decide) (hts _ tw_673) (fun _ h9 => h9) rfl dMo_powerOf_68 ?_
        refine lv_iload_n hx hb dMo_powerOf_71 rfl (lv_at hl 4 rfl) ?_
        refine lv_iload hx hb dMo_powerOf_72 (lv_at hl 6 rfl) ?_
        refine lv_imul hx hb dMo_powerOf_74 ?_
        refine rw_i (y := nI (kk * i)) (pk_mul _ _) ?_
        refine lv_bipush (v := nI 32) hx hb dMo_powerOf_75 (by decide +kernel) ?_
        have hki : kk * i ≤ 16 * 32 := Nat.mul_le_mul hk (by omega)
        refine lv_irem hx hb dMo_powerOf_77 (by decide +kernel) ?_
        refine rw_i (y := nI ((kk * i) % 32)) (pk_rem (by omega) (by omega) (by omega)) ?_
        refine rw_ald_d hx hb hK hP 15 1 rfl rfl (Nat.mod_lt _ (by decide)) (by decide) dMo_powerOf_78 ?_
        refine rw_d (y := hd_S ((kk * i) % 32)) (hsn _ (Nat.mod_lt _ (by decide))) ?_
        refine lv_dmul hx hb dMo_powerOf_79 (fb_n (hd_vs_b hs (i := i) (by omega) (Nat.mod_lt _ (by decide))) (by decide)) ?_
        refine lv_dsub hx hb dMo_powerOf_80 (fb_n (hd_im_b hs kk (i + 1) (by omega)) (by omega)) ?_
        refine rw_d (y := hd_im (D 1) f kk (i + 1)) rfl ?_
        refine lv_dstore (lv' := [(5, .double (hd_im (D 1) f kk (i + 1))), (3, .double (hd_re (D 1) f kk (i + 1))), (8, .double (hd_v (D 1) f i)), (0, .ref (b 0)), (1, .int (nI f)), (2, .int (nI kk)), (7, .int (nI i))]) hx hb dMo_powerOf_81 hl (by decide) rfl (fun ls hl => ?_)
        refine lv_iinc (v := nI (i + 1)) (lv' := [(7, .int (nI (i + 1))), (5, .double (hd_im (D 1) f kk (i + 1))), (3, .double (hd_re (D 1) f kk (i + 1))), (8, .double (hd_v (D 1) f i)), (0, .ref (b 0)), (1, .int (nI f)), (2, .int (nI kk))]) hx hb dMo_powerOf_83 hl (k := 6) rfl (nI_1 _) (by decide) rfl (fun ls hl => ?_)
        refine lv_goto (tgt := 8) hx hb dMo_powerOf_86 (by decide) ?_
        exact ih8 (i + 1) (by omega) (by omega) _ _ hP hD hS ls (lv_sub hl [4, 5, 6, 2, 1, 0] rfl)
  exact L8 _ 0 (Nat.lt_succ_self _) (by omega) _ _ hP hD hS ls (lv_sub hl [3, 4, 5, 2, 1, 0] rfl)
set_option maxHeartbeats 4000000 in
set_option maxRecDepth 100000 in
theorem kMo_bandOf (l : Launch) (dC : Nat → ClassId) (dI : Nat → Nat → Nat) (k : Nat → ClassId) (b : Nat → Nat) (I : Nat → Nat → Int32) (D : Nat → Nat → UInt64) (sz : Nat) (f bb : Nat) (hf : 16 * f + 32 ≤ 320) (hb4 : bb < 4) (hs : ∀ i, i < 32 → fb_ 1057 (D 1 (16 * f + i))) (hc : ∀ j, j < 32 → D 7 j = hd_C j) (hsn : ∀ j, j < 32 → D 8 j = hd_S j) : Met l yMo_bandOf wMo_bandOf ({ frames := 1, cells := 0, slots := 0, locals := 29 }) (va_Pc [.ref (b 0), .int (nI f), .int (nI bb)] (ct_pre (dC, dI) (mo_ty k) (fun _ => True) (wm k b I D) sz)) (va_Qd (fun r (_ : Unit) => r = hd_su (D 1) f bb) (fun u t => ct_at (dC, dI) (va_A (wm k b I D) sz) ((fun _ => wm k b I D) u) t) (va_A (wm k b I D) sz)) 0 0 (va_A (wm k b I D) sz) := by
  refine Met.ofW (cc := cMo_bandOf) (maxL := 8) (ret := (some .double)) (by decide) rfl ?_
  intro p e s m args below meth c s₁ B hml hv
  obtain ⟨rfl, hsz, hP, hK, hD0, hE⟩ := hv
  have hx := B.exec
  have hb := B.bytes
  have hr := B.returns
  have hts : ∀ w ∈ W0, w.before [.ref (b 0), .int (nI f), .int (nI bb)].toArray s = true := fun w h => atoms_spec (ws := wMo_bandOf) B.pre w (List.mem_cons_of_mem _ h)
  have hown : s.vm.findClass RMo = some m.cls := findClass_of_methodNamed B.named
  have hlocks := B.notSynchronized
  subst hsz
  have hD := hD0.self (sz := s.heap.size)
  generalize hAe : va_A (wm k b I D) s.heap.size = A at hD ⊢
  have hA : ∀ q : Nat, s.heap.size ≤ q → A q := fun q h => by rw [← hAe]; exact Or.inr h
  have hS : va_S A s.heap s.heap [] := va_S.rf
  have hl := lv_entry ([.ref (b 0), .int (nI f), .int (nI bb)]) (n := 8) (Nat.le_of_ble_eq_true rfl)
  rw [lg_entry_eq]
  generalize (lg_sl ([.ref (b 0), .int (nI f), .int (nI bb)]) ++ List.replicate (8 - (lg_sl ([.ref (b 0), .int (nI f), .int (nI bb)])).length) Slot.unset).toArray = ls at hl ⊢
  have hl : lv_has ls 8 [(0, .ref (b 0)), (1, .int (nI f)), (2, .int (nI bb))] := hl
  refine lp_q (fun Q9 hQ9 => ?_)
  rcases (show bb = 0 ∨ bb = 1 ∨ bb = 2 ∨ bb = 3 by omega) with rfl | rfl | rfl | rfl
  · refine lv_dconst0 hx hb dMo_bandOf_0 ?_
    refine rw_d (y := 0) rfl ?_
    refine lv_dstore_n (lv' := [(3, .double 0), (0, .ref (b 0)), (1, .int (nI f)), (2, .int (nI 0))]) hx hb dMo_bandOf_1 rfl hl (by decide) rfl (fun ls hl => ?_)
    refine lv_iload_n hx hb dMo_bandOf_2 rfl (lv_at hl 3 rfl) ?_
    refine lv_if_ne (tgt := 10) hx hb dMo_bandOf_3 (by decide) (fun c3 => ?_) (fun c3 => ?_)
    · have c3 : ¬ 0 = 0 := fun q9 => c3 (show nI 0 = nI 0 from (nI_eq (a := 0) (b := 0) (by omega) (by omega)).mpr q9)
      exact absurd (by decide) c3
    · have c3 : 0 = 0 := (nI_eq (a := 0) (b := 0) (by omega) (by omega)).mp (show nI 0 = nI 0 from c3)
      refine lv_iconst (v := nI 1) hx hb dMo_bandOf_6 (by decide +kernel) ?_
      refine lv_goto (tgt := 30) hx hb dMo_bandOf_7 (by decide) ?_
      refine lv_istore (lv' := [(5, .int (nI 1)), (3, .double 0), (0, .ref (b 0)), (1, .int (nI f)), (2, .int (nI 0))]) hx hb dMo_bandOf_30 hl (by decide) rfl (fun ls hl => ?_)
      refine lv_iload_n hx hb dMo_bandOf_32 rfl (lv_at hl 4 rfl) ?_
      refine lv_if_ne (tgt := 40) hx hb dMo_bandOf_33 (by decide) (fun c33 => ?_) (fun c33 => ?_)
      · have c33 : ¬ 0 = 0 := fun q9 => c33 (show nI 0 = nI 0 from (nI_eq (a := 0) (b := 0) (by omega) (by omega)).mpr q9)
        exact absurd (by decide) c33
      · have c33 : 0 = 0 := (nI_eq (a := 0) (b := 0) (by omega) (by omega)).mp (show nI 0 = nI 0 from c33)
        refine lv_iconst (v := nI 2) hx hb dMo_bandOf_36 (by decide +kernel) ?_
        refine lv_goto (tgt := 61) hx hb dMo_bandOf_37 (by decide) ?_
        refine lv_istore (lv' := [(6, .int (nI 2)), (5, .int (nI 1)), (3, .double 0), (0, .ref (b 0)), (1, .int (nI f)), (2, .int (nI 0))]) hx hb dMo_bandOf_61 hl (by decide) rfl (fun ls hl => ?_)
        refine lv_iload hx hb dMo_bandOf_63 (lv_at hl 1 rfl) ?_
        refine lv_istore (lv' := [(7, .int (nI 1)), (6, .int (nI 2)), (5, .int (nI 1)), (3, .double 0), (0, .ref (b 0)), (1, .int (nI f)), (2, .int (nI 0))]) hx hb dMo_bandOf_65 hl (by decide) rfl (fun ls hl => ?_)
        have L67 : ∀ (n67 : Nat) (mm : Nat), 2 - mm < n67 → mm ≤ 2 → ∀ (H : Heap) (locs : List Loc), va_P (dC, dI) vwCl (wm k b I D) H → va_D A (wm k b I D) → va_S A s.heap H locs → ∀ ls : Array Slot, lv_has ls 8 [(0, .ref (b 0)), (1, .int (nI f)), (3, .double (hd_bs (D 1) f 1 mm)), (6, .int (nI 2)), (7, .int (nI (1 + mm)))] → W p l e (headSpec wMo_bandOf ({ frames := 1, cells := 0, slots := 0, locals := 29 })).room s m [.ref (b 0), .int (nI f), .int (nI 0)].toArray below meth c H locs 0 0 Q9 (F0 m 67 ls []) := by
          intro n67
          induction n67 with
          | zero => intro mm hm; exact absurd hm (Nat.not_lt_zero _)
          | succ n67 ih67 =>
            intro mm hm67 hi H locs hP hD hS ls hl
            refine lv_iload hx hb dMo_bandOf_67 (lv_at hl 4 rfl) ?_
            refine lv_iload hx hb dMo_bandOf_69 (lv_at hl 3 rfl) ?_
            refine lv_icmp_gt (tgt := 90) hx hb dMo_bandOf_71 (by decide) (fun c71 => ?_) (fun c71 => ?_)
            · have c71 : 2 < (1 + mm) := (nI_ltI (a := 2) (b := (1 + mm)) (by omega) (by omega)).mp (show nI 2 < nI (1 + mm) from c71)
              obtain rfl : mm = 2 := by omega
              refine lv_dload_n hx hb dMo_bandOf_90 rfl (lv_at hl 2 rfl) ?_
              rw [hQ9]
              exact ct_rd hx hb hr hlocks () rfl hP hD hS (Nat.le_refl _) (Nat.le_refl _) dMo_bandOf_91
            · have c71 : ¬ 2 < (1 + mm) := fun q9 => c71 (show nI 2 < nI (1 + mm) from (nI_ltI (a := 2) (b := (1 + mm)) (by omega) (by omega)).mpr q9)
              refine lv_dload_n hx hb dMo_bandOf_74 rfl (lv_at hl 2 rfl) ?_
              refine lv_aload_n hx hb dMo_bandOf_75 rfl (lv_at hl 0 rfl) ?_
              refine lv_iload_n hx hb dMo_bandOf_76 rfl (lv_at hl 1 rfl) ?_
              refine lv_iload hx hb dMo_bandOf_77 (lv_at hl 4 rfl) ?_
              refine ct_d (va_runV (As := [.int (nI f), .int (nI (1 + mm))]) (rest := [.double (hd_bs (D 1) f 1 mm)]) ⟨hx, hb, hml, hown, hts⟩ (kMo_powerOf l dC dI k b I D _ f (1 + mm) hf (by omega) hs hc hsn) (cwV 2 hts (gw_V tw_794 tw_796 sl_Mo_powerOf tw_9 tw_797) rfl rfl rfl (by decide +kernel) ⟨Nat.le_of_ble_eq_true rfl, Nat.le_of_ble_eq_true rfl⟩) ⟨ct_blind (ev := fun _ => True) (fun _ _ _ _ h => h), va_recv hK hP (ci := 8) (q0 := 0) rfl rfl, ct_now (ev := fun _ => True) (fun _ _ _ => trivial) hP hK hD⟩ rfl rfl hl.1 rfl (lv_room (Nat.le_of_ble_eq_true rfl)) dMo_bandOf_79 ⟨Nat.le_of_ble_eq_true rfl, Nat.le_of_ble_eq_true rfl⟩) hD hS hA (fun r1 u1 H locs hw1 hP hD hS => ?_)
              subst hw1
              refine lv_dadd hx hb dMo_bandOf_82 (fb_n (hd_bs_b hs 1 (mm + 1) (by omega)) (by omega)) ?_
              refine rw_d (y := hd_bs (D 1) f 1 (mm + 1)) rfl ?_
              refine lv_dstore_n (lv' := [(3, .double (hd_bs (D 1) f 1 (mm + 1))), (0, .ref (b 0)), (1, .int (nI f)), (6, .int (nI 2)), (7, .int (nI (1 + mm)))]) hx hb dMo_bandOf_83 rfl hl (by decide) rfl (fun ls hl => ?_)
              refine lv_iinc (v := nI ((1 + mm) + 1)) (lv' := [(7, .int (nI ((1 + mm) + 1))), (3, .double (hd_bs (D 1) f 1 (mm + 1))), (0, .ref (b 0)), (1, .int (nI f)), (6, .int (nI 2))]) hx hb dMo_bandOf_84 hl (k := 4) rfl (nI_1 _) (by decide) rfl (fun ls hl => ?_)
              refine lv_goto (tgt := 67) hx hb dMo_bandOf_87 (by decide) ?_
              exact ih67 (mm + 1) (by omega) (by omega) _ _ hP hD hS ls (lv_sub hl [2, 3, 1, 4, 0] rfl)
        exact L67 _ 0 (Nat.lt_succ_self _) (by omega) _ _ hP hD hS ls (lv_sub hl [4, 5, 3, 1, 0] rfl)
  · refine lv_dconst0 hx hb dMo_bandOf_0 ?_
    refine rw_d (y := 0) rfl ?_
    refine lv_dstore_n (lv' := [(3, .double 0), (0, .ref (b 0)), (1, .int (nI f)), (2, .int (nI 1))]) hx hb dMo_bandOf_1 rfl hl (by decide) rfl (fun ls hl => ?_)
    refine lv_iload_n hx hb dMo_bandOf_2 rfl (lv_at hl 3 rfl) ?_
    refine lv_if_ne (tgt := 10) hx hb dMo_bandOf_3 (by decide) (fun c3 => ?_) (fun c3 => ?_)
    · have c3 : ¬ 1 = 0 := fun q9 => c3 (show nI 1 = nI 0 from (nI_eq (a := 1) (b := 0) (by omega) (by omega)).mpr q9)
      refine lv_iload_n hx hb dMo_bandOf_10 rfl (lv_at hl 3 rfl) ?_
      refine lv_iconst (v := nI 1) hx hb dMo_bandOf_11 (by decide +kernel) ?_
      refine lv_icmp_ne (tgt := 19) hx hb dMo_bandOf_12 (by decide) (fun c12 => ?_) (fun c12 => ?_)
      · have c12 : ¬ 1 = 1 := fun q9 => c12 (show nI 1 = nI 1 from (nI_eq (a := 1) (b := 1) (by omega) (by omega)).mpr q9)
        exact absurd (by decide) c12
      · have c12 : 1 = 1 := (nI_eq (a := 1) (b := 1) (by omega) (by omega)).mp (show nI 1 = nI 1 from c12)
        refine lv_iconst (v := nI 3) hx hb dMo_bandOf_15 (by decide +kernel) ?_
        refine lv_goto (tgt := 30) hx hb dMo_bandOf_16 (by decide) ?_
        refine lv_istore (lv' := [(5, .int (nI 3)), (3, .double 0), (0, .ref (b 0)), (1, .int (nI f)), (2, .int (nI 1))]) hx hb dMo_bandOf_30 hl (by decide) rfl (fun ls hl => ?_)
        refine lv_iload_n hx hb dMo_bandOf_32 rfl (lv_at hl 4 rfl) ?_
        refine lv_if_ne (tgt := 40) hx hb dMo_bandOf_33 (by decide) (fun c33 => ?_) (fun c33 => ?_)
        · have c33 : ¬ 1 = 0 := fun q9 => c33 (show nI 1 = nI 0 from (nI_eq (a := 1) (b := 0) (by omega) (by omega)).mpr q9)
          refine lv_iload_n hx hb dMo_bandOf_40 rfl (lv_at hl 4 rfl) ?_
          refine lv_iconst (v := nI 1) hx hb dMo_bandOf_41 (by decide +kernel) ?_
          refine lv_icmp_ne (tgt := 49) hx hb dMo_bandOf_42 (by decide) (fun c42 => ?_) (fun c42 => ?_)
          · have c42 : ¬ 1 = 1 := fun q9 => c42 (show nI 1 = nI 1 from (nI_eq (a := 1) (b := 1) (by omega) (by omega)).mpr q9)
            exact absurd (by decide) c42
          · have c42 : 1 = 1 := (nI_eq (a := 1) (b := 1) (by omega) (by omega)).mp (show nI 1 = nI 1 from c42)
            refine lv_iconst (v := nI 4) hx hb dMo_bandOf_45 (by decide +kernel) ?_
            refine lv_goto (tgt := 61) hx hb dMo_bandOf_46 (by decide) ?_
            refine lv_istore (lv' := [(6, .int (nI 4)), (5, .int (nI 3)), (3, .double 0), (0, .ref (b 0)), (1, .int (nI f)), (2, .int (nI 1))]) hx hb dMo_bandOf_61 hl (by decide) rfl (fun ls hl => ?_)
            refine lv_iload hx hb dMo_bandOf_63 (lv_at hl 1 rfl) ?_
            refine lv_istore (lv' := [(7, .int (nI 3)), (6, .int (nI 4)), (5, .int (nI 3)), (3, .double 0), (0, .ref (b 0)), (1, .int (nI f)), (2, .int (nI 1))]) hx hb dMo_bandOf_65 hl (by decide) rfl (fun ls hl => ?_)
            have L67 : ∀ (n67 : Nat) (mm : Nat), 2 - mm < n67 → mm ≤ 2 → ∀ (H : Heap) (locs : List Loc), va_P (dC, dI) vwCl (wm k b I D) H → va_D A (wm k b I D) → va_S A s.heap H locs → ∀ ls : Array Slot, lv_has ls 8 [(0, .ref (b 0)), (1, .int (nI f)), (3, .double (hd_bs (D 1) f 3 mm)), (6, .int (nI 4)), (7, .int (nI (3 + mm)))] → W p l e (headSpec wMo_bandOf ({ frames := 1, cells := 0, slots := 0, locals := 29 })).room s m [.ref (b 0), .int (nI f), .int (nI 1)].toArray below meth c H locs 0 0 Q9 (F0 m 67 ls []) := by
              intro n67
              induction n67 with
              | zero => intro mm hm; exact absurd hm (Nat.not_lt_zero _)
              | succ n67 ih67 =>
                intro mm hm67 hi H locs hP hD hS ls hl
                refine lv_iload hx hb dMo_bandOf_67 (lv_at hl 4 rfl) ?_
                refine lv_iload hx hb dMo_bandOf_69 (lv_at hl 3 rfl) ?_
                refine lv_icmp_gt (tgt := 90) hx hb dMo_bandOf_71 (by decide) (fun c71 => ?_) (fun c71 => ?_)
                · have c71 : 4 < (3 + mm) := (nI_ltI (a := 4) (b := (3 + mm)) (by omega) (by omega)).mp (show nI 4 < nI (3 + mm) from c71)
                  obtain rfl : mm = 2 := by omega
                  refine lv_dload_n hx hb dMo_bandOf_90 rfl (lv_at hl 2 rfl) ?_
                  rw [hQ9]
                  exact ct_rd hx hb hr hlocks () rfl hP hD hS (Nat.le_refl _) (Nat.le_refl _) dMo_bandOf_91
                · have c71 : ¬ 4 < (3 + mm) := fun q9 => c71 (show nI 4 < nI (3 + mm) from (nI_ltI (a := 4) (b := (3 + mm)) (by omega) (by omega)).mpr q9)
                  refine lv_dload_n hx hb dMo_bandOf_74 rfl (lv_at hl 2 rfl) ?_
                  refine lv_aload_n hx hb dMo_bandOf_75 rfl (lv_at hl 0 rfl) ?_
                  refine lv_iload_n hx hb dMo_bandOf_76 rfl (lv_at hl 1 rfl) ?_
                  refine lv_iload hx hb dMo_bandOf_77 (lv_at hl 4 rfl) ?_
                  refine ct_d (va_runV (As := [.int (nI f), .int (nI (3 + mm))]) (rest := [.double (hd_bs (D 1) f 3 mm)]) ⟨hx, hb, hml, hown, hts⟩ (kMo_powerOf l dC dI k b I D _ f (3 + mm) hf (by omega) hs hc hsn) (cwV 2 hts (gw_V tw_794 tw_796 sl_Mo_powerOf tw_9 tw_797) rfl rfl rfl (by decide +kernel) ⟨Nat.le_of_ble_eq_true rfl, Nat.le_of_ble_eq_true rfl⟩) ⟨ct_blind (ev := fun _ => True) (fun _ _ _ _ h => h), va_recv hK hP (ci := 8) (q0 := 0) rfl rfl, ct_now (ev := fun _ => True) (fun _ _ _ => trivial) hP hK hD⟩ rfl rfl hl.1 rfl (lv_room (Nat.le_of_ble_eq_true rfl)) dMo_bandOf_79 ⟨Nat.le_of_ble_eq_true rfl, Nat.le_of_ble_eq_true rfl⟩) hD hS hA (fun r2 u2 H locs hw2 hP hD hS => ?_)
                  subst hw2
                  refine lv_dadd hx hb dMo_bandOf_82 (fb_n (hd_bs_b hs 3 (mm + 1) (by omega)) (by omega)) ?_
                  refine rw_d (y := hd_bs (D 1) f 3 (mm + 1)) rfl ?_
                  refine lv_dstore_n (lv' := [(3, .double (hd_bs (D 1) f 3 (mm + 1))), (0, .ref (b 0)), (1, .int (nI f)), (6, .int (nI 4)), (7, .int (nI (3 + mm)))]) hx hb dMo_bandOf_83 rfl hl (by decide) rfl (fun ls hl => ?_)
                  refine lv_iinc (v := nI ((3 + mm) + 1)) (lv' := [(7, .int (nI ((3 + mm) + 1))), (3, .double (hd_bs (D 1) f 3 (mm + 1))), (0, .ref (b 0)), (1, .int (nI f)), (6, .int (nI 4))]) hx hb dMo_bandOf_84 hl (k := 4) rfl (nI_1 _) (by decide) rfl (fun ls hl => ?_)
                  refine lv_goto (tgt := 67) hx hb dMo_bandOf_87 (by decide) ?_
                  exact ih67 (mm + 1) (by omega) (by omega) _ _ hP hD hS ls (lv_sub hl [2, 3, 1, 4, 0] rfl)
            exact L67 _ 0 (Nat.lt_succ_self _) (by omega) _ _ hP hD hS ls (lv_sub hl [4, 5, 3, 1, 0] rfl)
        · have c33 : 1 = 0 := (nI_eq (a := 1) (b := 0) (by omega) (by omega)).mp (show nI 1 = nI 0 from c33)
          exact absurd c33 (by decide)
    · have c3 : 1 = 0 := (nI_eq (a := 1) (b := 0) (by omega) (by omega)).mp (show nI 1 = nI 0 from c3)
      exact absurd c3 (by decide)
  · refine lv_dconst0 hx hb dMo_bandOf_0 ?_
    refine rw_d (y := 0) rfl ?_
    refine lv_dstore_n (lv' := [(3, .double 0), (0, .ref (b 0)), (1, .int (nI f)), (2, .int (nI 2))]) hx hb dMo_bandOf_1 rfl hl (by decide) rfl (fun ls hl => ?_)
    refine lv_iload_n hx hb dMo_bandOf_2 rfl (lv_at hl 3 rfl) ?_
    refine lv_if_ne (tgt := 10) hx hb dMo_bandOf_3 (by decide) (fun c3 => ?_) (fun c3 => ?_)
    · have c3 : ¬ 2 = 0 := fun q9 => c3 (show nI 2 = nI 0 from (nI_eq (a := 2) (b := 0) (by omega) (by omega)).mpr q9)
      refine lv_iload_n hx hb dMo_bandOf_10 rfl (lv_at hl 3 rfl) ?_
      refine lv_iconst (v := nI 1) hx hb dMo_bandOf_11 (by decide +kernel) ?_
      refine lv_icmp_ne (tgt := 19) hx hb dMo_bandOf_12 (by decide) (fun c12 => ?_) (fun c12 => ?_)
      · have c12 : ¬ 2 = 1 := fun q9 => c12 (show nI 2 = nI 1 from (nI_eq (a := 2) (b := 1) (by omega) (by omega)).mpr q9)
        refine lv_iload_n hx hb dMo_bandOf_19 rfl (lv_at hl 3 rfl) ?_
        refine lv_iconst (v := nI 2) hx hb dMo_bandOf_20 (by decide +kernel) ?_
        refine lv_icmp_ne (tgt := 28) hx hb dMo_bandOf_21 (by decide) (fun c21 => ?_) (fun c21 => ?_)
        · have c21 : ¬ 2 = 2 := fun q9 => c21 (show nI 2 = nI 2 from (nI_eq (a := 2) (b := 2) (by omega) (by omega)).mpr q9)
          exact absurd (by decide) c21
        · have c21 : 2 = 2 := (nI_eq (a := 2) (b := 2) (by omega) (by omega)).mp (show nI 2 = nI 2 from c21)
          refine lv_iconst (v := nI 5) hx hb dMo_bandOf_24 (by decide +kernel) ?_
          refine lv_goto (tgt := 30) hx hb dMo_bandOf_25 (by decide) ?_
          refine lv_istore (lv' := [(5, .int (nI 5)), (3, .double 0), (0, .ref (b 0)), (1, .int (nI f)), (2, .int (nI 2))]) hx hb dMo_bandOf_30 hl (by decide) rfl (fun ls hl => ?_)
          refine lv_iload_n hx hb dMo_bandOf_32 rfl (lv_at hl 4 rfl) ?_
          refine lv_if_ne (tgt := 40) hx hb dMo_bandOf_33 (by decide) (fun c33 => ?_) (fun c33 => ?_)
          · have c33 : ¬ 2 = 0 := fun q9 => c33 (show nI 2 = nI 0 from (nI_eq (a := 2) (b := 0) (by omega) (by omega)).mpr q9)
            refine lv_iload_n hx hb dMo_bandOf_40 rfl (lv_at hl 4 rfl) ?_
            refine lv_iconst (v := nI 1) hx hb dMo_bandOf_41 (by decide +kernel) ?_
            refine lv_icmp_ne (tgt := 49) hx hb dMo_bandOf_42 (by decide) (fun c42 => ?_) (fun c42 => ?_)
            · have c42 : ¬ 2 = 1 := fun q9 => c42 (show nI 2 = nI 1 from (nI_eq (a := 2) (b := 1) (by omega) (by omega)).mpr q9)
              refine lv_iload_n hx hb dMo_bandOf_49 rfl (lv_at hl 4 rfl) ?_
              refine lv_iconst (v := nI 2) hx hb dMo_bandOf_50 (by decide +kernel) ?_
              refine lv_icmp_ne (tgt := 59) hx hb dMo_bandOf_51 (by decide) (fun c51 => ?_) (fun c51 => ?_)
              · have c51 : ¬ 2 = 2 := fun q9 => c51 (show nI 2 = nI 2 from (nI_eq (a := 2) (b := 2) (by omega) (by omega)).mpr q9)
                exact absurd (by decide) c51
              · have c51 : 2 = 2 := (nI_eq (a := 2) (b := 2) (by omega) (by omega)).mp (show nI 2 = nI 2 from c51)
                refine lv_bipush (v := nI 8) hx hb dMo_bandOf_54 (by decide +kernel) ?_
                refine lv_goto (tgt := 61) hx hb dMo_bandOf_56 (by decide) ?_
                refine lv_istore (lv' := [(6, .int (nI 8)), (5, .int (nI 5)), (3, .double 0), (0, .ref (b 0)), (1, .int (nI f)), (2, .int (nI 2))]) hx hb dMo_bandOf_61 hl (by decide) rfl (fun ls hl => ?_)
                refine lv_iload hx hb dMo_bandOf_63 (lv_at hl 1 rfl) ?_
                refine lv_istore (lv' := [(7, .int (nI 5)), (6, .int (nI 8)), (5, .int (nI 5)), (3, .double 0), (0, .ref (b 0)), (1, .int (nI f)), (2, .int (nI 2))]) hx hb dMo_bandOf_65 hl (by decide) rfl (fun ls hl => ?_)
                have L67 : ∀ (n67 : Nat) (mm : Nat), 4 - mm < n67 → mm ≤ 4 → ∀ (H : Heap) (locs : List Loc), va_P (dC, dI) vwCl (wm k b I D) H → va_D A (wm k b I D) → va_S A s.heap H locs → ∀ ls : Array Slot, lv_has ls 8 [(0, .ref (b 0)), (1, .int (nI f)), (3, .double (hd_bs (D 1) f 5 mm)), (6, .int (nI 8)), (7, .int (nI (5 + mm)))] → W p l e (headSpec wMo_bandOf ({ frames := 1, cells := 0, slots := 0, locals := 29 })).room s m [.ref (b 0), .int (nI f), .int (nI 2)].toArray below meth c H locs 0 0 Q9 (F0 m 67 ls []) := by
                  intro n67
                  induction n67 with
                  | zero => intro mm hm; exact absurd hm (Nat.not_lt_zero _)
                  | succ n67 ih67 =>
                    intro mm hm67 hi H locs hP hD hS ls hl
                    refine lv_iload hx hb dMo_bandOf_67 (lv_at hl 4 rfl) ?_
                    refine lv_iload hx hb dMo_bandOf_69 (lv_at hl 3 rfl) ?_
                    refine lv_icmp_gt (tgt := 90) hx hb dMo_bandOf_71 (by decide) (fun c71 => ?_) (fun c71 => ?_)
                    · have c71 : 8 < (5 + mm) := (nI_ltI (a := 8) (b := (5 + mm)) (by omega) (by omega)).mp (show nI 8 < nI (5 + mm) from c71)
                      obtain rfl : mm = 4 := by omega
                      refine lv_dload_n hx hb dMo_bandOf_90 rfl (lv_at hl 2 rfl) ?_
                      rw [hQ9]
                      exact ct_rd hx hb hr hlocks () rfl hP hD hS (Nat.le_refl _) (Nat.le_refl _) dMo_bandOf_91
                    · have c71 : ¬ 8 < (5 + mm) := fun q9 => c71 (show nI 8 < nI (5 + mm) from (nI_ltI (a := 8) (b := (5 + mm)) (by omega) (by omega)).mpr q9)
                      refine lv_dload_n hx hb dMo_bandOf_74 rfl (lv_at hl 2 rfl) ?_
                      refine lv_aload_n hx hb dMo_bandOf_75 rfl (lv_at hl 0 rfl) ?_
                      refine lv_iload_n hx hb dMo_bandOf_76 rfl (lv_at hl 1 rfl) ?_
                      refine lv_iload hx hb dMo_bandOf_77 (lv_at hl 4 rfl) ?_
                      refine ct_d (va_runV (As := [.int (nI f), .int (nI (5 + mm))]) (rest := [.double (hd_bs (D 1) f 5 mm)]) ⟨hx, hb, hml, hown, hts⟩ (kMo_powerOf l dC dI k b I D _ f (5 + mm) hf (by omega) hs hc hsn) (cwV 2 hts (gw_V tw_794 tw_796 sl_Mo_powerOf tw_9 tw_797) rfl rfl rfl (by decide +kernel) ⟨Nat.le_of_ble_eq_true rfl, Nat.le_of_ble_eq_true rfl⟩) ⟨ct_blind (ev := fun _ => True) (fun _ _ _ _ h => h), va_recv hK hP (ci := 8) (q0 := 0) rfl rfl, ct_now (ev := fun _ => True) (fun _ _ _ => trivial) hP hK hD⟩ rfl rfl hl.1 rfl (lv_room (Nat.le_of_ble_eq_true rfl)) dMo_bandOf_79 ⟨Nat.le_of_ble_eq_true rfl, Nat.le_of_ble_eq_true rfl⟩) hD hS hA (fun r3 u3 H locs hw3 hP hD hS => ?_)
                      subst hw3
                      refine lv_dadd hx hb dMo_bandOf_82 (fb_n (hd_bs_b hs 5 (mm + 1) (by omega)) (by omega)) ?_
                      refine rw_d (y := hd_bs (D 1) f 5 (mm + 1)) rfl ?_
                      refine lv_dstore_n (lv' := [(3, .double (hd_bs (D 1) f 5 (mm + 1))), (0, .ref (b 0)), (1, .int (nI f)), (6, .int (nI 8)), (7, .int (nI (5 + mm)))]) hx hb dMo_bandOf_83 rfl hl (by decide) rfl (fun ls hl => ?_)
                      refine lv_iinc (v := nI ((5 + mm) + 1)) (lv' := [(7, .int (nI ((5 + mm) + 1))), (3, .double (hd_bs (D 1) f 5 (mm + 1))), (0, .ref (b 0)), (1, .int (nI f)), (6, .int (nI 8))]) hx hb dMo_bandOf_84 hl (k := 4) rfl (nI_1 _) (by decide) rfl (fun ls hl => ?_)
                      refine lv_goto (tgt := 67) hx hb dMo_bandOf_87 (by decide) ?_
                      exact ih67 (mm + 1) (by omega) (by omega) _ _ hP hD hS ls (lv_sub hl [2, 3, 1, 4, 0] rfl)
                exact L67 _ 0 (Nat.lt_succ_self _) (by omega) _ _ hP hD hS ls (lv_sub hl [4, 5, 3, 1, 0] rfl)
            · have c42 : 2 = 1 := (nI_eq (a := 2) (b := 1) (by omega) (by omega)).mp (show nI 2 = nI 1 from c42)
              exact absurd c42 (by decide)
          · have c33 : 2 = 0 := (nI_eq (a := 2) (b := 0) (by omega) (by omega)).mp (show nI 2 = nI 0 from c33)
            exact absurd c33 (by decide)
      · have c12 : 2 = 1 := (nI_eq (a := 2) (b := 1) (by omega) (by omega)).mp (show nI 2 = nI 1 from c12)
        exact absurd c12 (by decide)
    · have c3 : 2 = 0 := (nI_eq (a := 2) (b := 0) (by omega) (by omega)).mp (show nI 2 = nI 0 from c3)
      exact absurd c3 (by decide)
  · refine lv_dconst0 hx hb dMo_bandOf_0 ?_
    refine rw_d (y := 0) rfl ?_
    refine lv_dstore_n (lv' := [(3, .double 0), (0, .ref (b 0)), (1, .int (nI f)), (2, .int (nI 3))]) hx hb dMo_bandOf_1 rfl hl (by decide) rfl (fun ls hl => ?_)
    refine lv_iload_n hx hb dMo_bandOf_2 rfl (lv_at hl 3 rfl) ?_
    refine lv_if_ne (tgt := 10) hx hb dMo_bandOf_3 (by decide) (fun c3 => ?_) (fun c3 => ?_)
    · have c3 : ¬ 3 = 0 := fun q9 => c3 (show nI 3 = nI 0 from (nI_eq (a := 3) (b := 0) (by omega) (by omega)).mpr q9)
      refine lv_iload_n hx hb dMo_bandOf_10 rfl (lv_at hl 3 rfl) ?_
      refine lv_iconst (v := nI 1) hx hb dMo_bandOf_11 (by decide +kernel) ?_
      refine lv_icmp_ne (tgt := 19) hx hb dMo_bandOf_12 (by decide) (fun c12 => ?_) (fun c12 => ?_)
      · have c12 : ¬ 3 = 1 := fun q9 => c12 (show nI 3 = nI 1 from (nI_eq (a := 3) (b := 1) (by omega) (by omega)).mpr q9)
        refine lv_iload_n hx hb dMo_bandOf_19 rfl (lv_at hl 3 rfl) ?_
        refine lv_iconst (v := nI 2) hx hb dMo_bandOf_20 (by decide +kernel) ?_
        refine lv_icmp_ne (tgt := 28) hx hb dMo_bandOf_21 (by decide) (fun c21 => ?_) (fun c21 => ?_)
        · have c21 : ¬ 3 = 2 := fun q9 => c21 (show nI 3 = nI 2 from (nI_eq (a := 3) (b := 2) (by omega) (by omega)).mpr q9)
          refine lv_bipush (v := nI 9) hx hb dMo_bandOf_28 (by decide +kernel) ?_
          refine lv_istore (lv' := [(5, .int (nI 9)), (3, .double 0), (0, .ref (b 0)), (1, .int (nI f)), (2, .int (nI 3))]) hx hb dMo_bandOf_30 hl (by decide) rfl (fun ls hl => ?_)
          refine lv_iload_n hx hb dMo_bandOf_32 rfl (lv_at hl 4 rfl) ?_
          refine lv_if_ne (tgt := 40) hx hb dMo_bandOf_33 (by decide) (fun c33 => ?_) (fun c33 => ?_)
          · have c33 : ¬ 3 = 0 := fun q9 => c33 (show nI 3 = nI 0 from (nI_eq (a := 3) (b := 0) (by omega) (by omega)).mpr q9)
            refine lv_iload_n hx hb dMo_bandOf_40 rfl (lv_at hl 4 rfl) ?_
            refine lv_iconst (v := nI 1) hx hb dMo_bandOf_41 (by decide +kernel) ?_
            refine lv_icmp_ne (tgt := 49) hx hb dMo_bandOf_42 (by decide) (fun c42 => ?_) (fun c42 => ?_)
            · have c42 : ¬ 3 = 1 := fun q9 => c42 (show nI 3 = nI 1 from (nI_eq (a := 3) (b := 1) (by omega) (by omega)).mpr q9)
              refine lv_iload_n hx hb dMo_bandOf_49 rfl (lv_at hl 4 rfl) ?_
              refine lv_iconst (v := nI 2) hx hb dMo_bandOf_50 (by decide +kernel) ?_
              refine lv_icmp_ne (tgt := 59) hx hb dMo_bandOf_51 (by decide) (fun c51 => ?_) (fun c51 => ?_)
              · have c51 : ¬ 3 = 2 := fun q9 => c51 (show nI 3 = nI 2 from (nI_eq (a := 3) (b := 2) (by omega) (by omega)).mpr q9)
                refine lv_bipush (v := nI 16) hx hb dMo_bandOf_59 (by decide +kernel) ?_
                refine lv_istore (lv' := [(6, .int (nI 16)), (5, .int (nI 9)), (3, .double 0), (0, .ref (b 0)), (1, .int (nI f)), (2, .int (nI 3))]) hx hb dMo_bandOf_61 hl (by decide) rfl (fun ls hl => ?_)
                refine lv_iload hx hb dMo_bandOf_63 (lv_at hl 1 rfl) ?_
                refine lv_istore (lv' := [(7, .int (nI 9)), (6, .int (nI 16)), (5, .int (nI 9)), (3, .double 0), (0, .ref (b 0)), (1, .int (nI f)), (2, .int (nI 3))]) hx hb dMo_bandOf_65 hl (by decide) rfl (fun ls hl => ?_)
                have L67 : ∀ (n67 : Nat) (mm : Nat), 8 - mm < n67 → mm ≤ 8 → ∀ (H : Heap) (locs : List Loc), va_P (dC, dI) vwCl (wm k b I D) H → va_D A (wm k b I D) → va_S A s.heap H locs → ∀ ls : Array Slot, lv_has ls 8 [(0, .ref (b 0)), (1, .int (nI f)), (3, .double (hd_bs (D 1) f 9 mm)), (6, .int (nI 16)), (7, .int (nI (9 + mm)))] → W p l e (headSpec wMo_bandOf ({ frames := 1, cells := 0, slots := 0, locals := 29 })).room s m [.ref (b 0), .int (nI f), .int (nI 3)].toArray below meth c H locs 0 0 Q9 (F0 m 67 ls []) := by
                  intro n67
                  induction n67 with
                  | zero => intro mm hm; exact absurd hm (Nat.not_lt_zero _)
                  | succ n67 ih67 =>
                    intro mm hm67 hi H locs hP hD hS ls hl
                    refine lv_iload hx hb dMo_bandOf_67 (lv_at hl 4 rfl) ?_
                    refine lv_iload hx hb dMo_bandOf_69 (lv_at hl 3 rfl) ?_
                    refine lv_icmp_gt (tgt := 90) hx hb dMo_bandOf_71 (by decide) (fun c71 => ?_) (fun c71 => ?_)
                    · have c71 : 16 < (9 + mm) := (nI_ltI (a := 16) (b := (9 + mm)) (by omega) (by omega)).mp (show nI 16 < nI (9 + mm) from c71)
                      obtain rfl : mm = 8 := by omega
                      refine lv_dload_n hx hb dMo_bandOf_90 rfl (lv_at hl 2 rfl) ?_
                      rw [hQ9]
                      exact ct_rd hx hb hr hlocks () rfl hP hD hS (Nat.le_refl _) (Nat.le_refl _) dMo_bandOf_91
                    · have c71 : ¬ 16 < (9 + mm) := fun q9 => c71 (show nI 16 < nI (9 + mm) from (nI_ltI (a := 16) (b := (9 + mm)) (by omega) (by omega)).mpr q9)
                      refine lv_dload_n hx hb dMo_bandOf_74 rfl (lv_at hl 2 rfl) ?_
                      refine lv_aload_n hx hb dMo_bandOf_75 rfl (lv_at hl 0 rfl) ?_
                      refine lv_iload_n hx hb dMo_bandOf_76 rfl (lv_at hl 1 rfl) ?_
                      refine lv_iload hx hb dMo_bandOf_77 (lv_at hl 4 rfl) ?_
                      refine ct_d (va_runV (As := [.int (nI f), .int (nI (9 + mm))]) (rest := [.double (hd_bs (D 1) f 9 mm)]) ⟨hx, hb, hml, hown, hts⟩ (kMo_powerOf l dC dI k b I D _ f (9 + mm) hf (by omega) hs hc hsn) (cwV 2 hts (gw_V tw_794 tw_796 sl_Mo_powerOf tw_9 tw_797) rfl rfl rfl (by decide +kernel) ⟨Nat.le_of_ble_eq_true rfl, Nat.le_of_ble_eq_true rfl⟩) ⟨ct_blind (ev := fun _ => True) (fun _ _ _ _ h => h), va_recv hK hP (ci := 8) (q0 := 0) rfl rfl, ct_now (ev := fun _ => True) (fun _ _ _ => trivial) hP hK hD⟩ rfl rfl hl.1 rfl (lv_room (Nat.le_of_ble_eq_true rfl)) dMo_bandOf_79 ⟨Nat.le_of_ble_eq_true rfl, Nat.le_of_ble_eq_true rfl⟩) hD hS hA (fun r4 u4 H locs hw4 hP hD hS => ?_)
                      subst hw4
                      refine lv_dadd hx hb dMo_bandOf_82 (fb_n (hd_bs_b hs 9 (mm + 1) (by omega)) (by omega)) ?_
                      refine rw_d (y := hd_bs (D 1) f 9 (mm + 1)) rfl ?_
                      refine lv_dstore_n (lv' := [(3, .double (hd_bs (D 1) f 9 (mm + 1))), (0, .ref (b 0)), (1, .int (nI f)), (6, .int (nI 16)), (7, .int (nI (9 + mm)))]) hx hb dMo_bandOf_83 rfl hl (by decide) rfl (fun ls hl => ?_)
                      refine lv_iinc (v := nI ((9 + mm) + 1)) (lv' := [(7, .int (nI ((9 + mm) + 1))), (3, .double (hd_bs (D 1) f 9 (mm + 1))), (0, .ref (b 0)), (1, .int (nI f)), (6, .int (nI 16))]) hx hb dMo_bandOf_84 hl (k := 4) rfl (nI_1 _) (by decide) rfl (fun ls hl => ?_)
                      refine lv_goto (tgt := 67) hx hb dMo_bandOf_87 (by decide) ?_
                      exact ih67 (mm + 1) (by omega) (by omega) _ _ hP hD hS ls (lv_sub hl [2, 3, 1, 4, 0] rfl)
                exact L67 _ 0 (Nat.lt_succ_self _) (by omega) _ _ hP hD hS ls (lv_sub hl [4, 5, 3, 1, 0] rfl)
              · have c51 : 3 = 2 := (nI_eq (a := 3) (b := 2) (by omega) (by omega)).mp (show nI 3 = nI 2 from c51)
                exact absurd c51 (by decide)
            · have c42 : 3 = 1 := (nI_eq (a := 3) (b := 1) (by omega) (by omega)).mp (show nI 3 = nI 1 from c42)
              exact absurd c42 (by decide)
          · have c33 : 3 = 0 := (nI_eq (a := 3) (b := 0) (by omega) (by omega)).mp (show nI 3 = nI 0 from c33)
            exact absurd c33 (by decide)
        · have c21 : 3 = 2 := (nI_eq (a := 3) (b := 2) (by omega) (by omega)).mp (show nI 3 = nI 2 from c21)
          exact absurd c21 (by decide)
      · have c12 : 3 = 1 := (nI_eq (a := 3) (b := 1) (by omega) (by omega)).mp (show nI 3 = nI 1 from c12)
        exact absurd c12 (by decide)
    · have c3 : 3 = 0 := (nI_eq (a := 3) (b := 0) (by omega) (by omega)).mp (show nI 3 = nI 0 from c3)
      exact absurd c3 (by decide)
set_option maxHeartbeats 4000000 in
set_option maxRecDepth 100000 in
theorem kMo_isLoud (l : Launch) (dC : Nat → ClassId) (dI : Nat → Nat → Nat) (k : Nat → ClassId) (b : Nat → Nat) (I : Nat → Nat → Int32) (D : Nat → Nat → UInt64) (sz : Nat) (f : Nat) (hf : 16 * f + 32 ≤ 320) (hs : ∀ i, i < 32 → fb_ 1057 (D 1 (16 * f + i))) (hc : ∀ j, j < 32 → D 7 j = hd_C j) (hsn : ∀ j, j < 32 → D 8 j = hd_S j) : Met l yMo_isLoud wMo_isLoud ({ frames := 2, cells := 0, slots := 0, locals := 56 }) (va_Pc [.ref (b 0), .int (nI f)] (ct_pre (dC, dI) (mo_ty k) (fun _ => True) (wm k b I D) sz)) (va_Qi (fun r (_ : Unit) => r = (if hd_ld (D 1) f (D 0 0) then 1 else 0)) (fun u t => ct_at (dC, dI) (va_A (wm k b I D) sz) ((fun _ => wm k b I D) u) t) (va_A (wm k b I D) sz)) 0 0 (va_A (wm k b I D) sz) := by
  refine Met.ofW (cc := cMo_isLoud) (maxL := 5) (ret := (some .boolean)) (by decide) rfl ?_
  intro p e s m args below meth c s₁ B hml hv
  obtain ⟨rfl, hsz, hP, hK, hD0, hE⟩ := hv
  have hx := B.exec
  have hb := B.bytes
  have hr := B.returns
  have hts : ∀ w ∈ W0, w.before [.ref (b 0), .int (nI f)].toArray s = true := fun w h => atoms_spec (ws := wMo_isLoud) B.pre w (List.mem_cons_of_mem _ h)
  have hown : s.vm.findClass RMo = some m.cls := findClass_of_methodNamed B.named
  have hlocks := B.notSynchronized
  subst hsz
  have hD := hD0.self (sz := s.heap.size)
  generalize hAe : va_A (wm k b I D) s.heap.size = A at hD ⊢
  have hA : ∀ q : Nat, s.heap.size ≤ q → A q := fun q h => by rw [← hAe]; exact Or.inr h
  have hS : va_S A s.heap s.heap [] := va_S.rf
  have hl := lv_entry ([.ref (b 0), .int (nI f)]) (n := 5) (Nat.le_of_ble_eq_true rfl)
  rw [lg_entry_eq]
  generalize (lg_sl ([.ref (b 0), .int (nI f)]) ++ List.replicate (5 - (lg_sl ([.ref (b 0), .int (nI f)])).length) Slot.unset).toArray = ls at hl ⊢
  have hl : lv_has ls 5 [(0, .ref (b 0)), (1, .int (nI f))] := hl
  refine lp_q (fun Q9 hQ9 => ?_)
  refine lv_dconst0 hx hb dMo_isLoud_0 ?_
  refine rw_d (y := 0) rfl ?_
  refine lv_dstore_n (lv' := [(2, .double 0), (0, .ref (b 0)), (1, .int (nI f))]) hx hb dMo_isLoud_1 rfl hl (by decide) rfl (fun ls hl => ?_)
  refine lv_iconst (v := nI 0) hx hb dMo_isLoud_2 (by decide +kernel) ?_
  refine lv_istore (lv' := [(4, .int (nI 0)), (2, .double 0), (0, .ref (b 0)), (1, .int (nI f))]) hx hb dMo_isLoud_3 hl (by decide) rfl (fun ls hl => ?_)
  have L5 : ∀ (n5 : Nat) (bb : Nat), 4 - bb < n5 → bb ≤ 4 → ∀ (H : Heap) (locs : List Loc), va_P (dC, dI) vwCl (wm k b I D) H → va_D A (wm k b I D) → va_S A s.heap H locs → ∀ ls : Array Slot, lv_has ls 5 [(0, .ref (b 0)), (1, .int (nI f)), (2, .double (hd_lo (D 1) f bb)), (4, .int (nI bb))] → W p l e (headSpec wMo_isLoud ({ frames := 2, cells := 0, slots := 0, locals := 56 })).room s m [.ref (b 0), .int (nI f)].toArray below meth c H locs 0 0 Q9 (F0 m 5 ls []) := by
    intro n5
    induction n5 with
    | zero => intro bb hm; exact absurd hm (Nat.not_lt_zero _)
    | succ n5 ih5 =>
      intro bb hm5 hi H locs hP hD hS ls hl
      refine lv_iload hx hb dMo_isLoud_5 (lv_at hl 3 rfl) ?_
      refine lv_iconst (v := nI 4) hx hb dMo_isLoud_7 (by decide +kernel) ?_
      refine lv_icmp_ge (tgt := 27) hx hb dMo_isLoud_8 (by decide) (fun c8 => ?_) (fun c8 => ?_)
      · have c8 : 4 ≤ bb := (nI_leI (a := 4) (b := bb) (by omega) (by omega)).mp (show nI 4 ≤ nI bb from c8)
        obtain rfl : bb = 4 := by omega
        refine lv_dload_n hx hb dMo_isLoud_27 rfl (lv_at hl 2 rfl) ?_
        refine lv_aload_n hx hb dMo_isLoud_28 rfl (lv_at hl 0 rfl) ?_
        refine va_get (D := (dC, dI)) (ci := 8) (v := .double (D 0 0)) (C := RMo) (T := TMo) (N := 27) hx hb hts inMo hown hK hP 0 rfl rfl 10 (by decide) (hts _ tw_657) (fun _ h9 => h9) rfl dMo_isLoud_29 ?_
        refine lv_dcmp hx hb dMo_isLoud_32 ?_
        refine lv_if_lt (tgt := 40) hx hb dMo_isLoud_33 (by decide) (fun c33 => ?_) (fun c33 => ?_)
        · refine lv_iconst (v := nI 0) hx hb dMo_isLoud_40 (by decide +kernel) ?_
          rw [hQ9]
          exact ct_rz hx hb hr hlocks () (sp_post_0 (ld_0 c33)) hP hD hS (Nat.le_refl _) (Nat.le_refl _) dMo_isLoud_41
        · refine lv_iconst (v := nI 1) hx hb dMo_isLoud_36 (by decide +kernel) ?_
          refine lv_goto (tgt := 41) hx hb dMo_isLoud_37 (by decide) ?_
          rw [hQ9]
          exact ct_rz hx hb hr hlocks () (sp_post_1 (ld_1 c33)) hP hD hS (Nat.le_refl _) (Nat.le_refl _) dMo_isLoud_41
      · have c8 : ¬ 4 ≤ bb := fun q9 => c8 (show nI 4 ≤ nI bb from (nI_leI (a := 4) (b := bb) (by omega) (by omega)).mpr q9)
        refine lv_dload_n hx hb dMo_isLoud_11 rfl (lv_at hl 2 rfl) ?_
        refine lv_aload_n hx hb dMo_isLoud_12 rfl (lv_at hl 0 rfl) ?_
        refine lv_iload_n hx hb dMo_isLoud_13 rfl (lv_at hl 1 rfl) ?_
        refine lv_iload hx hb dMo_isLoud_14 (lv_at hl 3 rfl) ?_
        refine ct_d (va_runV (As := [.int (nI f), .int (nI bb)]) (rest := [.double (hd_lo (D 1) f bb)]) ⟨hx, hb, hml, hown, hts⟩ (kMo_bandOf l dC dI k b I D _ f bb hf (by omega) hs hc hsn) (cwV 2 hts (gw_V tw_808 tw_810 sl_Mo_bandOf tw_9 tw_811) rfl rfl rfl (by decide +kernel) ⟨Nat.le_of_ble_eq_true rfl, Nat.le_of_ble_eq_true rfl⟩) ⟨ct_blind (ev := fun _ => True) (fun _ _ _ _ h => h), va_recv hK hP (ci := 8) (q0 := 0) rfl rfl, ct_now (ev := fun _ => True) (fun _ _ _ => trivial) hP hK hD⟩ rfl rfl hl.1 rfl (lv_room (Nat.le_of_ble_eq_true rfl)) dMo_isLoud_16 ⟨Nat.le_of_ble_eq_true rfl, Nat.le_of_ble_eq_true rfl⟩) hD hS hA (fun r1 u1 H locs hw1 hP hD hS => ?_)
        subst hw1
        refine lv_dadd hx hb dMo_isLoud_19 (fb_n (hd_lo_b hs (bb + 1) (by omega)) (by omega)) ?_
        refine rw_d (y := hd_lo (D 1) f (bb + 1)) rfl ?_
        refine lv_dstore_n (lv' := [(2, .double (hd_lo (D 1) f (bb + 1))), (0, .ref (b 0)), (1, .int (nI f)), (4, .int (nI bb))]) hx hb dMo_isLoud_20 rfl hl (by decide) rfl (fun ls hl => ?_)
        refine lv_iinc (v := nI (bb + 1)) (lv' := [(4, .int (nI (bb + 1))), (2, .double (hd_lo (D 1) f (bb + 1))), (0, .ref (b 0)), (1, .int (nI f))]) hx hb dMo_isLoud_21 hl (k := 3) rfl (nI_1 _) (by decide) rfl (fun ls hl => ?_)
        refine lv_goto (tgt := 5) hx hb dMo_isLoud_24 (by decide) ?_
        exact ih5 (bb + 1) (by omega) (by omega) _ _ hP hD hS ls (lv_sub hl [2, 3, 1, 0] rfl)
  exact L5 _ 0 (Nat.lt_succ_self _) (by omega) _ _ hP hD hS ls (lv_sub hl [2, 3, 1, 0] rfl)
