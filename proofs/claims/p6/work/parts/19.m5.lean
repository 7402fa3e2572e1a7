set_option maxHeartbeats 4000000 in
set_option maxRecDepth 100000 in
theorem kMo_logarithm (l : Launch) (dC : Nat → ClassId) (dI : Nat → Nat → Nat) (k : Nat → ClassId) (b : Nat → Nat) (I : Nat → Nat → Int32) (D : Nat → Nat → UInt64) (sz : Nat) (x0 : UInt64) (h0 : hd_in x0) : Met l yMo_logarithm wMo_logarithm ({ frames := 0, cells := 0, slots := 0, locals := 0 }) (va_Pc [.double x0] (ct_pre (dC, dI) (mo_ty k) (fun _ => True) (wm k b I D) sz)) (va_Qd (fun r (_ : Unit) => r = hd_ln x0) (fun u t => ct_at (dC, dI) (va_A (wm k b I D) sz) ((fun _ => wm k b I D) u) t) (va_A (wm k b I D) sz)) 0 0 (va_A (wm k b I D) sz) := by
  refine Met.ofW (cc := cMo_logarithm) (maxL := 12) (ret := (some .double)) (by decide) rfl ?_
  intro p e s m args below meth c s₁ B hml hv
  obtain ⟨rfl, hsz, hP, hK, hD0, hE⟩ := hv
  have hx := B.exec
  have hb := B.bytes
  have hr := B.returns
  have hts : ∀ w ∈ W0, w.before [.double x0].toArray s = true := fun w h => atoms_spec (ws := wMo_logarithm) B.pre w (List.mem_cons_of_mem _ h)
  have hown : s.vm.findClass RMo = some m.cls := findClass_of_methodNamed B.named
  have hlocks := B.notSynchronized
  subst hsz
  have hD := hD0.self (sz := s.heap.size)
  generalize hAe : va_A (wm k b I D) s.heap.size = A at hD ⊢
  have hA : ∀ q : Nat, s.heap.size ≤ q → A q := fun q h => by rw [← hAe]; exact Or.inr h
  have hS : va_S A s.heap s.heap [] := va_S.rf
  have hl := lv_entry ([.double x0]) (n := 12) (Nat.le_of_ble_eq_true rfl)
  rw [lg_entry_eq]
  generalize (lg_sl ([.double x0]) ++ List.replicate (12 - (lg_sl ([.double x0])).length) Slot.unset).toArray = ls at hl ⊢
  have hl : lv_has ls 12 [(0, .double x0)] := hl
  refine lp_q (fun Q9 hQ9 => ?_)
  refine lv_dload_n hx hb dMo_logarithm_0 rfl (lv_at hl 0 rfl) ?_
  refine lv_dstore_n (lv' := [(2, .double x0), (0, .double x0)]) hx hb dMo_logarithm_1 rfl hl (by decide) rfl (fun ls hl => ?_)
  refine lv_iconst (v := nI 0) hx hb dMo_logarithm_2 (by decide +kernel) ?_
  refine lv_istore (lv' := [(4, .int (nI 0)), (2, .double x0), (0, .double x0)]) hx hb dMo_logarithm_3 hl (by decide) rfl (fun ls hl => ?_)
  have L5 : ∀ (n5 : Nat) (x : UInt64) (kq : Int32) (fu : Nat), fu < n5 → hd_in x → hd_l1 fu x kq = hd_l1 2000 x0 0 → x.toNat < 4609434218613702656 + fu * 2 ^ 52 → ∀ (H : Heap) (locs : List Loc), va_P (dC, dI) vwCl (wm k b I D) H → va_D A (wm k b I D) → va_S A s.heap H locs → ∀ ls : Array Slot, lv_has ls 12 [(2, .double x), (4, .int kq)] → W p l e (headSpec wMo_logarithm ({ frames := 0, cells := 0, slots := 0, locals := 0 })).room s m [.double x0].toArray below meth c H locs 0 0 Q9 (F0 m 5 ls []) := by
    intro n5
    induction n5 with
    | zero => intro x kq fu hm; exact absurd hm (Nat.not_lt_zero _)
    | succ n5 ih5 =>
      intro x kq fu hm5 hx5 hf5 hb5 H locs hP hD hS ls hl
      refine lv_dload_n hx hb dMo_logarithm_5 rfl (lv_at hl 0 rfl) ?_
      refine lv_ldc2d (v := 4609434218613702656) hx hb hown (hts _ tw_816) dMo_logarithm_6 ?_
      refine rw_d (y := hd_15) rfl ?_
      refine lv_dcmp hx hb dMo_logarithm_9 ?_
      refine lv_if_lt (tgt := 25) hx hb dMo_logarithm_10 (by decide) (fun c10 => ?_) (fun c10 => ?_)
      · have d1 : ¬ (FP.dcmp x hd_15 = some .gt ∨ FP.dcmp x hd_15 = some .eq) := fun q => Int32.not_lt.mpr ((fc_ge_l _).mpr q) c10
        have d2 : (x, kq) = hd_l1 2000 x0 0 := by rw [← hf5]; exact (l1_neg fu d1).symm
        have d3 : x.toNat < 4609434218613702656 := by have := mt (hd_c15 hx5).mpr d1; omega
        have hx6 := hx5
        unfold hd_in at hx6
        have L25 : ∀ (n25 : Nat) (y : UInt64) (kr : Int32) (fw : Nat), fw < n25 → hd_in y → y.toNat < 4609434218613702656 → hd_l2 fw y kr = hd_x2 x0 → 4604930618986332160 ≤ y.toNat + fw * 2 ^ 52 → ∀ (H : Heap) (locs : List Loc), va_P (dC, dI) vwCl (wm k b I D) H → va_D A (wm k b I D) → va_S A s.heap H locs → ∀ ls : Array Slot, lv_has ls 12 [(2, .double y), (4, .int kr)] → W p l e (headSpec wMo_logarithm ({ frames := 0, cells := 0, slots := 0, locals := 0 })).room s m [.double x0].toArray below meth c H locs 0 0 Q9 (F0 m 25 ls []) := by
          intro n25
          induction n25 with
          | zero => intro y kr fw hm; exact absurd hm (Nat.not_lt_zero _)
          | succ n25 ih25 =>
            intro y kr fw hm25 hy1 hy2 hy3 hy4 H locs hP hD hS ls hl
            refine lv_dload_n hx hb dMo_logarithm_25 rfl (lv_at hl 0 rfl) ?_
            refine lv_ldc2d (v := 4604930618986332160) hx hb hown (hts _ tw_817) dMo_logarithm_26 ?_
            refine rw_d (y := hd_75) rfl ?_
            refine lv_dcmp hx hb dMo_logarithm_29 ?_
            refine lv_if_ge (tgt := 45) hx hb dMo_logarithm_30 (by decide) (fun c30 => ?_) (fun c30 => ?_)
            · have e1 : ¬ FP.dcmp y hd_75 = some .lt := (fc_ge_g _).mp c30
              have e2 : (y, kr) = hd_x2 x0 := by rw [← hy3]; exact (l2_neg fw e1).symm
              have f3 : hd_ok y := ⟨by have := mt (hd_c75 hy1).mpr e1; omega, hy2⟩
              refine lv_dload_n hx hb dMo_logarithm_45 rfl (lv_at hl 0 rfl) ?_
              refine lv_dconst1 hx hb dMo_logarithm_46 ?_
              refine rw_d (y := hd_1) rfl ?_
              refine lv_dsub hx hb dMo_logarithm_47 (fb_n (hd_m1_b f3) (by decide)) ?_
              refine lv_dload_n hx hb dMo_logarithm_48 rfl (lv_at hl 0 rfl) ?_
              refine lv_dconst1 hx hb dMo_logarithm_49 ?_
              refine rw_d (y := hd_1) rfl ?_
              refine lv_dadd hx hb dMo_logarithm_50 (fb_n (hd_p1_b f3) (by decide)) ?_
              refine lv_ddiv hx hb dMo_logarithm_51 (fb_n (hd_z_b f3) (by decide)) ?_
              refine rw_d (y := hd_z y) rfl ?_
              refine lv_dstore (lv' := [(5, .double (hd_z y)), (2, .double y), (4, .int kr)]) hx hb dMo_logarithm_52 hl (by decide) rfl (fun ls hl => ?_)
              refine lv_dload hx hb dMo_logarithm_54 (lv_at hl 0 rfl) ?_
              refine lv_dload hx hb dMo_logarithm_56 (lv_at hl 0 rfl) ?_
              refine lv_dmul hx hb dMo_logarithm_58 (fb_n (hd_y_b f3) (by decide)) ?_
              refine lv_dstore (lv' := [(7, .double (FP.dmul (hd_z y) (hd_z y))), (5, .double (hd_z y)), (2, .double y), (4, .int kr)]) hx hb dMo_logarithm_59 hl (by decide) rfl (fun ls hl => ?_)
              refine lv_dconst0 hx hb dMo_logarithm_61 ?_
              refine rw_d (y := 0) rfl ?_
              refine lv_dstore (lv' := [(9, .double 0), (7, .double (FP.dmul (hd_z y) (hd_z y))), (5, .double (hd_z y)), (2, .double y), (4, .int kr)]) hx hb dMo_logarithm_62 hl (by decide) rfl (fun ls hl => ?_)
              refine lv_bipush (v := nI 19) hx hb dMo_logarithm_64 (by decide +kernel) ?_
              refine rw_i (y := jd 0) jd_0 ?_
              refine lv_istore (lv' := [(11, .int (jd 0)), (9, .double 0), (7, .double (FP.dmul (hd_z y) (hd_z y))), (5, .double (hd_z y)), (2, .double y), (4, .int kr)]) hx hb dMo_logarithm_66 hl (by decide) rfl (fun ls hl => ?_)
              have L68 : ∀ (n68 : Nat) (q : Nat), 10 - q < n68 → q ≤ 10 → ∀ (H : Heap) (locs : List Loc), va_P (dC, dI) vwCl (wm k b I D) H → va_D A (wm k b I D) → va_S A s.heap H locs → ∀ ls : Array Slot, lv_has ls 12 [(4, .int kr), (5, .double (hd_z y)), (7, .double (FP.dmul (hd_z y) (hd_z y))), (9, .double (hd_l3 (FP.dmul (hd_z y) (hd_z y)) q)), (11, .int (jd q))] → W p l e (headSpec wMo_logarithm ({ frames := 0, cells := 0, slots := 0, locals := 0 })).room s m [.double x0].toArray below meth c H locs 0 0 Q9 (F0 m 68 ls []) := by
                intro n68
                induction n68 with
                | zero => intro q hm; exact absurd hm (Nat.not_lt_zero _)
                | succ n68 ih68 =>
                  intro q hm68 hq H locs hP hD hS ls hl
                  refine lv_iload hx hb dMo_logarithm_68 (lv_at hl 4 rfl) ?_
                  refine lv_if_le (tgt := 92) hx hb dMo_logarithm_70 (by decide) (fun c70 => ?_) (fun c70 => ?_)
                  · obtain rfl : q = 10 := (jd_le q hq).mp c70
                    refine lv_ldc2d (v := 4611686018427387904) hx hb hown (hts _ tw_767) dMo_logarithm_92 ?_
                    refine rw_d (y := hd_2) rfl ?_
                    refine lv_dload hx hb dMo_logarithm_95 (lv_at hl 1 rfl) ?_
                    refine lv_dmul hx hb dMo_logarithm_97 (fb_n (hd_2z_b f3) (by decide)) ?_
                    refine lv_dload hx hb dMo_logarithm_98 (lv_at hl 3 rfl) ?_
                    refine lv_dmul hx hb dMo_logarithm_100 (fb_n (hd_2zs_b f3) (by decide)) ?_
                    refine lv_iload hx hb dMo_logarithm_101 (lv_at hl 0 rfl) ?_
                    refine lv_i2d hx hb dMo_logarithm_103 ?_
                    refine lv_ldc2d (v := 4604418534313441775) hx hb hown (hts _ tw_818) dMo_logarithm_104 ?_
                    refine rw_d (y := hd_l) rfl ?_
                    refine lv_dmul hx hb dMo_logarithm_107 (fb_n (hd_kl_b kr) (by decide)) ?_
                    refine lv_dadd hx hb dMo_logarithm_108 (fb_n (hd_le_b f3 kr) (by decide)) ?_
                    refine rw_d (y := hd_le y kr) rfl ?_
                    rw [hQ9]
                    exact ct_rd hx hb hr hlocks () (by unfold hd_ln; rw [← e2]) hP hD hS (Nat.le_refl _) (Nat.le_refl _) dMo_logarithm_109
                  · have hq2 : q ≠ 10 := fun z => c70 ((jd_le q hq).mpr z)
                    refine lv_dload hx hb dMo_logarithm_73 (lv_at hl 3 rfl) ?_
                    refine lv_dload hx hb dMo_logarithm_75 (lv_at hl 2 rfl) ?_
                    refine lv_dmul hx hb dMo_logarithm_77 (fb_n (hd_l3y_b (hd_y_b f3) (k := q) (by omega)) (by decide)) ?_
                    refine lv_dconst1 hx hb dMo_logarithm_78 ?_
                    refine rw_d (y := hd_1) rfl ?_
                    refine lv_iload hx hb dMo_logarithm_79 (lv_at hl 4 rfl) ?_
                    refine rw_i (y := nI (19 - 2 * q)) (jd_n (by omega)) ?_
                    refine lv_i2d hx hb dMo_logarithm_81 ?_
                    refine lv_ddiv hx hb dMo_logarithm_82 (fb_n (hd_j_b (k := q) (by omega)) (by decide)) ?_
                    refine lv_dadd hx hb dMo_logarithm_83 (fb_n (hd_l3_b (hd_y_b f3) (q + 1) (by omega)) (by omega)) ?_
                    refine rw_d (y := hd_l3 (FP.dmul (hd_z y) (hd_z y)) (q + 1)) rfl ?_
                    refine lv_dstore (lv' := [(9, .double (hd_l3 (FP.dmul (hd_z y) (hd_z y)) (q + 1))), (4, .int kr), (5, .double (hd_z y)), (7, .double (FP.dmul (hd_z y) (hd_z y))), (11, .int (jd q))]) hx hb dMo_logarithm_84 hl (by decide) rfl (fun ls hl => ?_)
                    refine lv_iinc (v := jd (q + 1)) (lv' := [(11, .int (jd (q + 1))), (9, .double (hd_l3 (FP.dmul (hd_z y) (hd_z y)) (q + 1))), (4, .int kr), (5, .double (hd_z y)), (7, .double (FP.dmul (hd_z y) (hd_z y)))]) hx hb dMo_logarithm_86 hl (k := 4) rfl (jd_s q (by omega)) (by decide) rfl (fun ls hl => ?_)
                    refine lv_goto (tgt := 68) hx hb dMo_logarithm_89 (by decide) ?_
                    exact ih68 (q + 1) (by omega) (by omega) _ _ hP hD hS ls (lv_sub hl [2, 3, 4, 1, 0] rfl)
              exact L68 _ 0 (Nat.lt_succ_self _) (by omega) _ _ hP hD hS ls (lv_sub hl [5, 3, 2, 1, 0] rfl)
            · have e1 : FP.dcmp y hd_75 = some .lt := (fc_lt_g _).mp (Int32.not_le.mp c30)
              have e2 := (hd_c75 hy1).mp e1
              obtain ⟨fv, rfl⟩ : ∃ fv, fw = fv + 1 := ⟨fw - 1, by omega⟩
              have hy6 := hy1
              unfold hd_in at hy6
              have e3 : (FP.dmul y hd_2).toNat = y.toNat + 2 ^ 52 := fn_dbl (by omega) (by omega)
              have e4 : hd_in (FP.dmul y hd_2) := by unfold hd_in; rw [e3]; omega
              have e5 : hd_l2 fv (FP.dmul y hd_2) (kr - 1) = hd_x2 x0 := by rw [← hy3]; exact (l2_pos e1).symm
              refine lv_dload_n hx hb dMo_logarithm_33 rfl (lv_at hl 0 rfl) ?_
              refine lv_ldc2d (v := 4611686018427387904) hx hb hown (hts _ tw_767) dMo_logarithm_34 ?_
              refine rw_d (y := hd_2) rfl ?_
              refine lv_dmul hx hb dMo_logarithm_37 (fb_n (hd_in_b e4) (by decide)) ?_
              refine lv_dstore_n (lv' := [(2, .double (FP.dmul y hd_2)), (4, .int kr)]) hx hb dMo_logarithm_38 rfl hl (by decide) rfl (fun ls hl => ?_)
              refine lv_iinc (v := kr - 1) (lv' := [(4, .int (kr - 1)), (2, .double (FP.dmul y hd_2))]) hx hb dMo_logarithm_39 hl (k := 1) rfl (kr_m1 _) (by decide) rfl (fun ls hl => ?_)
              refine lv_goto (tgt := 25) hx hb dMo_logarithm_42 (by decide) ?_
              exact ih25 (FP.dmul y hd_2) (kr - 1) fv (by omega) e4 (by rw [e3]; omega) e5 (by rw [e3]; omega) _ _ hP hD hS ls (lv_sub hl [1, 0] rfl)
        exact L25 _ x kq 2000 (Nat.lt_succ_self _) hx5 d3 (by unfold hd_x2; rw [← d2]) (by omega) _ _ hP hD hS ls (lv_sub hl [0, 1] rfl)
      · have d1 := (fc_ge_l _).mp (Int32.not_lt.mp c10)
        have d2 := (hd_c15 hx5).mp d1
        obtain ⟨fv, rfl⟩ : ∃ fv, fu = fv + 1 := ⟨fu - 1, by omega⟩
        have hx6 := hx5
        unfold hd_in at hx6
        have d3 : (FP.ddiv x hd_2).toNat = x.toNat - 2 ^ 52 := fn_half (by omega) (by omega)
        have d4 : hd_in (FP.ddiv x hd_2) := by unfold hd_in; rw [d3]; omega
        have d5 : hd_l1 fv (FP.ddiv x hd_2) (kq + 1) = hd_l1 2000 x0 0 := by rw [← hf5]; exact (l1_pos d1).symm
        refine lv_dload_n hx hb dMo_logarithm_13 rfl (lv_at hl 0 rfl) ?_
        refine lv_ldc2d (v := 4611686018427387904) hx hb hown (hts _ tw_767) dMo_logarithm_14 ?_
        refine rw_d (y := hd_2) rfl ?_
        refine lv_ddiv hx hb dMo_logarithm_17 (fb_n (hd_in_b d4) (by decide)) ?_
        refine lv_dstore_n (lv' := [(2, .double (FP.ddiv x hd_2)), (4, .int kq)]) hx hb dMo_logarithm_18 rfl hl (by decide) rfl (fun ls hl => ?_)
        refine lv_iinc (v := kq + 1) (lv' := [(4, .int (kq + 1)), (2, .double (FP.ddiv x hd_2))]) hx hb dMo_logarithm_19 hl (k := 1) rfl (rfl) (by decide) rfl (fun ls hl => ?_)
        refine lv_goto (tgt := 5) hx hb dMo_logarithm_22 (by decide) ?_
        exact ih5 (FP.ddiv x hd_2) (kq + 1) fv (by omega) d4 d5 (by rw [d3]; omega) _ _ hP hD hS ls (lv_sub hl [1, 0] rfl)
  exact L5 _ x0 0 2000 (Nat.lt_succ_self _) h0 rfl (by unfold hd_in at h0; omega) _ _ hP hD hS ls (lv_sub hl [1, 0] rfl)
set_option maxHeartbeats 4000000 in
set_option maxRecDepth 100000 in
theorem kMo_levelOf (l : Launch) (dC : Nat → ClassId) (dI : Nat → Nat → Nat) (k : Nat → ClassId) (b : Nat → Nat) (I : Nat → Nat → Int32) (D : Nat → Nat → UInt64) (sz : Nat) (f bb : Nat) (hf : 16 * f + 32 ≤ 320) (hb4 : bb < 4) (hs : ∀ i, i < 32 → fb_ 1057 (D 1 (16 * f + i))) (hc : ∀ j, j < 32 → D 7 j = hd_C j) (hsn : ∀ j, j < 32 → D 8 j = hd_S j) : Met l yMo_levelOf wMo_levelOf ({ frames := 2, cells := 0, slots := 0, locals := 56 }) (va_Pc [.ref (b 0), .int (nI f), .int (nI bb)] (ct_pre (dC, dI) (mo_ty k) (fun _ => True) (wm k b I D) sz)) (va_Qd (fun r (_ : Unit) => r = hd_lev (D 1) f bb) (fun u t => ct_at (dC, dI) (va_A (wm k b I D) sz) ((fun _ => wm k b I D) u) t) (va_A (wm k b I D) sz)) 0 0 (va_A (wm k b I D) sz) := by
  refine Met.ofW (cc := cMo_levelOf) (maxL := 5) (ret := (some .double)) (by decide) rfl ?_
  intro p e s m args below meth c s₁ B hml hv
  obtain ⟨rfl, hsz, hP, hK, hD0, hE⟩ := hv
  have hx := B.exec
  have hb := B.bytes
  have hr := B.returns
  have hts : ∀ w ∈ W0, w.before [.ref (b 0), .int (nI f), .int (nI bb)].toArray s = true := fun w h => atoms_spec (ws := wMo_levelOf) B.pre w (List.mem_cons_of_mem _ h)
  have hown : s.vm.findClass RMo = some m.cls := findClass_of_methodNamed B.named
  have hlocks := B.notSynchronized
  subst hsz
  have hD := hD0.self (sz := s.heap.size)
  generalize hAe : va_A (wm k b I D) s.heap.size = A at hD ⊢
  have hA : ∀ q : Nat, s.heap.size ≤ q → A q := fun q h => by rw [← hAe]; exact Or.inr h
  have hS : va_S A s.heap s.heap [] := va_S.rf
  have hl := lv_entry ([.ref (b 0), .int (nI f), .int (nI bb)]) (n := 5) (Nat.le_of_ble_eq_true rfl)
  rw [lg_entry_eq]
  generalize (lg_sl ([.ref (b 0), .int (nI f), .int (nI bb)]) ++ List.replicate (5 - (lg_sl ([.ref (b 0), .int (nI f), .int (nI bb)])).length) Slot.unset).toArray = ls at hl ⊢
  have hl : lv_has ls 5 [(0, .ref (b 0)), (1, .int (nI f)), (2, .int (nI bb))] := hl
  refine lv_aload_n hx hb dMo_levelOf_0 rfl (lv_at hl 0 rfl) ?_
  refine lv_iload_n hx hb dMo_levelOf_1 rfl (lv_at hl 1 rfl) ?_
  refine lv_iload_n hx hb dMo_levelOf_2 rfl (lv_at hl 2 rfl) ?_
  refine ct_d (va_runV (As := [.int (nI f), .int (nI bb)]) (rest := []) ⟨hx, hb, hml, hown, hts⟩ (kMo_bandOf l dC dI k b I D _ f bb hf hb4 hs hc hsn) (cwV 2 hts (gw_V tw_808 tw_810 sl_Mo_bandOf tw_9 tw_811) rfl rfl rfl (by decide +kernel) ⟨Nat.le_of_ble_eq_true rfl, Nat.le_of_ble_eq_true rfl⟩) ⟨ct_blind (ev := fun _ => True) (fun _ _ _ _ h => h), va_recv hK hP (ci := 8) (q0 := 0) rfl rfl, ct_now (ev := fun _ => True) (fun _ _ _ => trivial) hP hK hD⟩ rfl rfl hl.1 rfl (lv_room (Nat.le_of_ble_eq_true rfl)) dMo_levelOf_3 ⟨Nat.le_of_ble_eq_true rfl, Nat.le_of_ble_eq_true rfl⟩) hD hS hA (fun r1 u1 H locs hw1 hP hD hS => ?_)
  subst hw1
  refine lv_dstore_n (lv' := [(3, .double (hd_su (D 1) f bb)), (0, .ref (b 0)), (1, .int (nI f)), (2, .int (nI bb))]) hx hb dMo_levelOf_6 rfl hl (by decide) rfl (fun ls hl => ?_)
  refine lv_dload_n hx hb dMo_levelOf_7 rfl (lv_at hl 0 rfl) ?_
  refine lv_ldc2d (v := 4457293557087583675) hx hb hown (hts _ tw_812) dMo_levelOf_8 ?_
  refine rw_d (y := hd_ep) rfl ?_
  refine lv_dcmp hx hb dMo_levelOf_11 ?_
  refine lv_if_le (tgt := 19) hx hb dMo_levelOf_12 (by decide) (fun c12 => ?_) (fun c12 => ?_)
  · refine lv_ldc2d (v := 4457293557087583675) hx hb hown (hts _ tw_812) dMo_levelOf_19 ?_
    refine rw_d (y := hd_ep) rfl ?_
    refine rw_d (y := hd_fl (hd_su (D 1) f bb)) ((if_neg ((fc_le_l _).mp c12)).symm) ?_
    have hin := hd_fl_in (hd_su_b hs bb) (hd_su_p hs bb)
    refine ct_d (va_runS (As := [.double (hd_fl (hd_su (D 1) f bb))]) (rest := []) ⟨hx, hb, hml, hown, hts⟩ (kMo_logarithm l dC dI k b I D _ (hd_fl (hd_su (D 1) f bb)) hin) (va_cwS 1 hts (gw_S tw_813 tw_814 tw_9 tw_815) rfl rfl rfl (by decide +kernel) ⟨Nat.le_of_ble_eq_true rfl, Nat.le_of_ble_eq_true rfl⟩) ⟨ct_blind (ev := fun _ => True) (fun _ _ _ _ h => h), ct_now (ev := fun _ => True) (fun _ _ _ => trivial) hP hK hD⟩ rfl rfl hl.1 rfl (lv_room (Nat.le_of_ble_eq_true rfl)) dMo_levelOf_22 ⟨Nat.le_of_ble_eq_true rfl, Nat.le_of_ble_eq_true rfl⟩) hD hS hA (fun r2 u2 H locs hw2 hP hD hS => ?_)
    subst hw2
    exact ct_rd hx hb hr hlocks () rfl hP hD hS (Nat.le_refl _) (Nat.le_refl _) dMo_levelOf_25
  · refine lv_dload_n hx hb dMo_levelOf_15 rfl (lv_at hl 0 rfl) ?_
    refine lv_goto (tgt := 22) hx hb dMo_levelOf_16 (by decide) ?_
    refine rw_d (y := hd_fl (hd_su (D 1) f bb)) ((if_pos ((fc_gt_l _).mp (Int32.not_le.mp c12))).symm) ?_
    have hin := hd_fl_in (hd_su_b hs bb) (hd_su_p hs bb)
    refine ct_d (va_runS (As := [.double (hd_fl (hd_su (D 1) f bb))]) (rest := []) ⟨hx, hb, hml, hown, hts⟩ (kMo_logarithm l dC dI k b I D _ (hd_fl (hd_su (D 1) f bb)) hin) (va_cwS 1 hts (gw_S tw_813 tw_814 tw_9 tw_815) rfl rfl rfl (by decide +kernel) ⟨Nat.le_of_ble_eq_true rfl, Nat.le_of_ble_eq_true rfl⟩) ⟨ct_blind (ev := fun _ => True) (fun _ _ _ _ h => h), ct_now (ev := fun _ => True) (fun _ _ _ => trivial) hP hK hD⟩ rfl rfl hl.1 rfl (lv_room (Nat.le_of_ble_eq_true rfl)) dMo_levelOf_22 ⟨Nat.le_of_ble_eq_true rfl, Nat.le_of_ble_eq_true rfl⟩) hD hS hA (fun r3 u3 H locs hw3 hP hD hS => ?_)
    subst hw3
    exact ct_rd hx hb hr hlocks () rfl hP hD hS (Nat.le_refl _) (Nat.le_refl _) dMo_levelOf_25
