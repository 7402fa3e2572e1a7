set_option maxHeartbeats 4000000 in
set_option maxRecDepth 100000 in
theorem kNu_logarithm (l : Launch) (dC : Nat → ClassId) (dI : Nat → Nat → Nat) (k : Nat → ClassId) (b P : Nat → Nat) (I : Nat → Nat → Int32) (D : Nat → Nat → UInt64) (sz : Nat) (x0 : UInt64) (h0 : hd_in x0) : Met l yNu_logarithm wNu_logarithm ({ frames := 1, cells := 0, slots := 0, locals := 21 }) (va_Pc [.double x0] (ct_pre (dC, dI) (de_ty k) (fun _ => True) ([]) sz)) (va_Qd (fun r (_ : Unit) => r = hd_ln x0) (fun u t => ct_at (dC, dI) (va_A ([]) sz) ((fun _ => []) u) t) (va_A ([]) sz)) 0 0 (va_A ([]) sz) := by
  refine Met.ofW (cc := cNu_logarithm) (maxL := 12) (ret := (some .double)) (by decide) rfl ?_
  intro p e s m args below meth c s₁ B hml hv
  obtain ⟨rfl, hsz, hP, hK, hD0, hE⟩ := hv
  have hx := B.exec
  have hb := B.bytes
  have hr := B.returns
  have hts : ∀ w ∈ W0, w.before [.double x0].toArray s = true := fun w h => atoms_spec (ws := wNu_logarithm) B.pre w (List.mem_cons_of_mem _ h)
  have hown : s.vm.findClass RNu = some m.cls := findClass_of_methodNamed B.named
  have hlocks := B.notSynchronized
  subst hsz
  have hP0 := hP
  have hD := hD0.self (sz := s.heap.size)
  generalize hAe : va_A ([]) s.heap.size = A at hD ⊢
  have hA : ∀ q : Nat, s.heap.size ≤ q → A q := fun q h => by rw [← hAe]; exact Or.inr h
  have hS : va_S A s.heap s.heap [] := va_S.rf
  have hl := lv_entry ([.double x0]) (n := 12) (Nat.le_of_ble_eq_true rfl)
  rw [lg_entry_eq]
  generalize (lg_sl ([.double x0]) ++ List.replicate (12 - (lg_sl ([.double x0])).length) Slot.unset).toArray = ls at hl ⊢
  have hl : lv_has ls 12 [(0, .double x0)] := hl
  refine lp_q (fun Q9 hQ9 => ?_)
  refine lv_dload_n hx hb dNu_logarithm_0 rfl (lv_at hl 0 rfl) ?_
  have hP : va_P (dC, dI) vwCl ([] ++ ([] ++ ([]))) _ := hP
  have hD : va_D A ([] ++ ([] ++ ([]))) := hD
  refine sg_d (va_runS (As := [.double x0]) (rest := []) ⟨hx, hb, hml, hown, hts⟩ (kNu_finite l dC dI k b P I D _ x0 (fb_mono (hd_in_b h0) (by decide))) (va_cwS 1 hts (gw_S tw_426 tw_427 tw_15 tw_428) rfl rfl rfl (by decide +kernel) ⟨Nat.le_of_ble_eq_true rfl, Nat.le_of_ble_eq_true rfl⟩) ⟨ct_blind (ev := fun _ => True) (fun _ _ _ _ h => h), ct_now (A := A) (ev := fun _ => True) (fun _ _ _ => trivial) (sg_Pc hP) hK (sg_Dc hD)⟩ rfl rfl hl.1 rfl (lv_room (Nat.le_of_ble_eq_true rfl)) dNu_logarithm_1 ⟨Nat.le_of_ble_eq_true rfl, Nat.le_of_ble_eq_true rfl⟩) hP hD hS hA (fun r1 u1 H locs hw1 hP hD hS => ?_)
  have hP : va_P (dC, dI) vwCl ([]) H := hP
  have hD : va_D A ([]) := hD
  refine rw_d (y := x0) hw1 ?_
  refine lv_dstore_n (lv' := [(2, .double x0), (0, .double x0)]) hx hb dNu_logarithm_4 rfl hl (by decide) rfl (fun ls hl => ?_)
  refine lv_iconst (v := nI 0) hx hb dNu_logarithm_5 (by decide +kernel) ?_
  refine lv_istore (lv' := [(4, .int (nI 0)), (2, .double x0), (0, .double x0)]) hx hb dNu_logarithm_6 hl (by decide) rfl (fun ls hl => ?_)
  refine lv_iconst (v := nI 0) hx hb dNu_logarithm_8 (by decide +kernel) ?_
  refine lv_istore (lv' := [(5, .int (nI 0)), (4, .int (nI 0)), (2, .double x0), (0, .double x0)]) hx hb dNu_logarithm_9 hl (by decide) rfl (fun ls hl => ?_)
  have L11 : ∀ (n11 : Nat) (x : UInt64) (kq : Int32) (fu : Nat) (tu : Nat), fu < n11 → hd_in x → hd_l1 fu x kq = hd_l1 2000 x0 0 → x.toNat < 4609434218613702656 + fu * 2 ^ 52 → tu + fu = 2000 → ∀ (H : Heap) (locs : List Loc), va_P (dC, dI) vwCl ([]) H → va_D A ([]) → va_S A s.heap H locs → ∀ ls : Array Slot, lv_has ls 12 [(2, .double x), (4, .int kq), (5, .int (nI tu))] → W p l e (headSpec wNu_logarithm ({ frames := 1, cells := 0, slots := 0, locals := 21 })).room s m [.double x0].toArray below meth c H locs 0 0 Q9 (F0 m 11 ls []) := by
    intro n11
    induction n11 with
    | zero => intro x kq fu tu hm; exact absurd hm (Nat.not_lt_zero _)
    | succ n11 ih11 =>
      intro x kq fu tu hm11 hx5 hf5 hb5 ht5 H locs hP hD hS ls hl
      refine lv_iload hx hb dNu_logarithm_11 (lv_at hl 2 rfl) ?_
      refine lv_sipush (v := nI 2000) hx hb dNu_logarithm_13 (by decide +kernel) ?_
      refine lv_icmp_ge (tgt := 42) hx hb dNu_logarithm_16 (by decide) (fun c16 => ?_) (fun c16 => ?_)
      · have c16 : 2000 ≤ tu := (nI_leI (a := 2000) (b := tu) (by omega) (by omega)).mp (show nI 2000 ≤ nI tu from c16)
        obtain rfl : fu = 0 := by omega
        have d2 : (x, kq) = hd_l1 2000 x0 0 := by rw [← hf5]; rfl
        have d3 : x.toNat < 4609434218613702656 := by omega
        have hx6 := hx5
        unfold hd_in at hx6
        refine lv_iconst (v := nI 0) hx hb dNu_logarithm_42 (by decide +kernel) ?_
        refine lv_istore (lv' := [(5, .int (nI 0)), (2, .double x), (4, .int kq)]) hx hb dNu_logarithm_43 hl (by decide) rfl (fun ls hl => ?_)
        have L45 : ∀ (n45 : Nat) (y : UInt64) (kr : Int32) (fw : Nat) (tv : Nat), fw < n45 → hd_in y → y.toNat < 4609434218613702656 → hd_l2 fw y kr = hd_x2 x0 → 4604930618986332160 ≤ y.toNat + fw * 2 ^ 52 → tv + fw = 2000 → ∀ (H : Heap) (locs : List Loc), va_P (dC, dI) vwCl ([]) H → va_D A ([]) → va_S A s.heap H locs → ∀ ls : Array Slot, lv_has ls 12 [(2, .double y), (4, .int kr), (5, .int (nI tv))] → W p l e (headSpec wNu_logarithm ({ frames := 1, cells := 0, slots := 0, locals := 21 })).room s m [.double x0].toArray below meth c H locs 0 0 Q9 (F0 m 45 ls []) := by
          intro n45
          induction n45 with
          | zero => intro y kr fw tv hm; exact absurd hm (Nat.not_lt_zero _)
          | succ n45 ih45 =>
            intro y kr fw tv hm45 hy1 hy2 hy3 hy4 ht6 H locs hP hD hS ls hl
            refine lv_iload hx hb dNu_logarithm_45 (lv_at hl 2 rfl) ?_
            refine lv_sipush (v := nI 2000) hx hb dNu_logarithm_47 (by decide +kernel) ?_
            refine lv_icmp_ge (tgt := 76) hx hb dNu_logarithm_50 (by decide) (fun c50 => ?_) (fun c50 => ?_)
            · have c50 : 2000 ≤ tv := (nI_leI (a := 2000) (b := tv) (by omega) (by omega)).mp (show nI 2000 ≤ nI tv from c50)
              obtain rfl : fw = 0 := by omega
              have e2 : (y, kr) = hd_x2 x0 := by rw [← hy3]; rfl
              have f3 : hd_ok y := ⟨by omega, hy2⟩
              refine lv_dload_n hx hb dNu_logarithm_76 rfl (lv_at hl 0 rfl) ?_
              refine lv_dconst1 hx hb dNu_logarithm_77 ?_
              refine rw_d (y := hd_1) rfl ?_
              refine lv_dsub hx hb dNu_logarithm_78 (fb_n (hd_m1_b f3) (by decide)) ?_
              refine lv_dload_n hx hb dNu_logarithm_79 rfl (lv_at hl 0 rfl) ?_
              refine lv_dconst1 hx hb dNu_logarithm_80 ?_
              refine rw_d (y := hd_1) rfl ?_
              refine lv_dadd hx hb dNu_logarithm_81 (fb_n (hd_p1_b f3) (by decide)) ?_
              refine lv_ddiv hx hb dNu_logarithm_82 (fb_n (hd_z_b f3) (by decide)) ?_
              refine rw_d (y := hd_z y) rfl ?_
              refine lv_dstore (lv' := [(5, .double (hd_z y)), (2, .double y), (4, .int kr)]) hx hb dNu_logarithm_83 hl (by decide) rfl (fun ls hl => ?_)
              refine lv_dload hx hb dNu_logarithm_85 (lv_at hl 0 rfl) ?_
              refine lv_dload hx hb dNu_logarithm_87 (lv_at hl 0 rfl) ?_
              refine lv_dmul hx hb dNu_logarithm_89 (fb_n (hd_y_b f3) (by decide)) ?_
              refine lv_dstore (lv' := [(7, .double (FP.dmul (hd_z y) (hd_z y))), (5, .double (hd_z y)), (2, .double y), (4, .int kr)]) hx hb dNu_logarithm_90 hl (by decide) rfl (fun ls hl => ?_)
              refine lv_dconst0 hx hb dNu_logarithm_92 ?_
              refine rw_d (y := 0) rfl ?_
              refine lv_dstore (lv' := [(9, .double 0), (7, .double (FP.dmul (hd_z y) (hd_z y))), (5, .double (hd_z y)), (2, .double y), (4, .int kr)]) hx hb dNu_logarithm_93 hl (by decide) rfl (fun ls hl => ?_)
              refine lv_bipush (v := nI 19) hx hb dNu_logarithm_95 (by decide +kernel) ?_
              refine rw_i (y := jd 0) jd_0 ?_
              refine lv_istore (lv' := [(11, .int (jd 0)), (9, .double 0), (7, .double (FP.dmul (hd_z y) (hd_z y))), (5, .double (hd_z y)), (2, .double y), (4, .int kr)]) hx hb dNu_logarithm_97 hl (by decide) rfl (fun ls hl => ?_)
              have L99 : ∀ (n99 : Nat) (q : Nat), 10 - q < n99 → q ≤ 10 → ∀ (H : Heap) (locs : List Loc), va_P (dC, dI) vwCl ([]) H → va_D A ([]) → va_S A s.heap H locs → ∀ ls : Array Slot, lv_has ls 12 [(4, .int kr), (5, .double (hd_z y)), (7, .double (FP.dmul (hd_z y) (hd_z y))), (9, .double (hd_l3 (FP.dmul (hd_z y) (hd_z y)) q)), (11, .int (jd q))] → W p l e (headSpec wNu_logarithm ({ frames := 1, cells := 0, slots := 0, locals := 21 })).room s m [.double x0].toArray below meth c H locs 0 0 Q9 (F0 m 99 ls []) := by
                intro n99
                induction n99 with
                | zero => intro q hm; exact absurd hm (Nat.not_lt_zero _)
                | succ n99 ih99 =>
                  intro q hm99 hq H locs hP hD hS ls hl
                  refine lv_iload hx hb dNu_logarithm_99 (lv_at hl 4 rfl) ?_
                  refine lv_iconst (v := nI 1) hx hb dNu_logarithm_101 (by decide +kernel) ?_
                  refine lv_icmp_lt (tgt := 124) hx hb dNu_logarithm_102 (by decide) (fun c102 => ?_) (fun c102 => ?_)
                  · obtain rfl : q = 10 := (jd_lt1 q hq).mp c102
                    refine lv_ldc2d (v := 4611686018427387904) hx hb hown (hts _ tw_485) dNu_logarithm_124 ?_
                    refine rw_d (y := hd_2) rfl ?_
                    refine lv_dload hx hb dNu_logarithm_127 (lv_at hl 1 rfl) ?_
                    refine lv_dmul hx hb dNu_logarithm_129 (fb_n (hd_2z_b f3) (by decide)) ?_
                    refine lv_dload hx hb dNu_logarithm_130 (lv_at hl 3 rfl) ?_
                    refine lv_dmul hx hb dNu_logarithm_132 (fb_n (hd_2zs_b f3) (by decide)) ?_
                    refine lv_iload hx hb dNu_logarithm_133 (lv_at hl 0 rfl) ?_
                    refine lv_i2d hx hb dNu_logarithm_135 ?_
                    refine lv_ldc2d (v := 4604418534313441775) hx hb hown (hts _ tw_487) dNu_logarithm_136 ?_
                    refine rw_d (y := hd_l) rfl ?_
                    refine lv_dmul hx hb dNu_logarithm_139 (fb_n (hd_kl_b kr) (by decide)) ?_
                    refine lv_dadd hx hb dNu_logarithm_140 (fb_n (hd_le_b f3 kr) (by decide)) ?_
                    refine rw_d (y := hd_le y kr) rfl ?_
                    rw [hQ9]
                    exact ct_rd hx hb hr hlocks () (by unfold hd_ln; rw [← e2]) hP hD hS (Nat.le_refl _) (Nat.le_refl _) dNu_logarithm_141
                  · have hq2 : q ≠ 10 := fun z => c102 ((jd_lt1 q hq).mpr z)
                    refine lv_dload hx hb dNu_logarithm_105 (lv_at hl 3 rfl) ?_
                    refine lv_dload hx hb dNu_logarithm_107 (lv_at hl 2 rfl) ?_
                    refine lv_dmul hx hb dNu_logarithm_109 (fb_n (hd_l3y_b (hd_y_b f3) (k := q) (by omega)) (by decide)) ?_
                    refine lv_dconst1 hx hb dNu_logarithm_110 ?_
                    refine rw_d (y := hd_1) rfl ?_
                    refine lv_iload hx hb dNu_logarithm_111 (lv_at hl 4 rfl) ?_
                    refine rw_i (y := nI (19 - 2 * q)) (jd_n (by omega)) ?_
                    refine lv_i2d hx hb dNu_logarithm_113 ?_
                    refine lv_ddiv hx hb dNu_logarithm_114 (fb_n (hd_j_b (k := q) (by omega)) (by decide)) ?_
                    refine lv_dadd hx hb dNu_logarithm_115 (fb_n (hd_l3_b (hd_y_b f3) (q + 1) (by omega)) (by omega)) ?_
                    refine rw_d (y := hd_l3 (FP.dmul (hd_z y) (hd_z y)) (q + 1)) rfl ?_
                    refine lv_dstore (lv' := [(9, .double (hd_l3 (FP.dmul (hd_z y) (hd_z y)) (q + 1))), (4, .int kr), (5, .double (hd_z y)), (7, .double (FP.dmul (hd_z y) (hd_z y))), (11, .int (jd q))]) hx hb dNu_logarithm_116 hl (by decide) rfl (fun ls hl => ?_)
                    refine lv_iinc (v := jd (q + 1)) (lv' := [(11, .int (jd (q + 1))), (9, .double (hd_l3 (FP.dmul (hd_z y) (hd_z y)) (q + 1))), (4, .int kr), (5, .double (hd_z y)), (7, .double (FP.dmul (hd_z y) (hd_z y)))]) hx hb dNu_logarithm_118 hl (k := 4) rfl (jd_s q (by omega)) (by decide) rfl (fun ls hl => ?_)
                    refine lv_goto (tgt := 99) hx hb dNu_logarithm_121 (by decide) ?_
                    exact ih99 (q + 1) (by omega) (by omega) _ _ hP hD hS ls (lv_sub hl [2, 3, 4, 1, 0] rfl)
              exact L99 _ 0 (Nat.lt_succ_self _) (by omega) _ _ hP hD hS ls (lv_sub hl [5, 3, 2, 1, 0] rfl)
            · have c50 : ¬ 2000 ≤ tv := fun q9 => c50 (show nI 2000 ≤ nI tv from (nI_leI (a := 2000) (b := tv) (by omega) (by omega)).mpr q9)
              refine lv_dload_n hx hb dNu_logarithm_53 rfl (lv_at hl 0 rfl) ?_
              refine lv_ldc2d (v := 4604930618986332160) hx hb hown (hts _ tw_486) dNu_logarithm_54 ?_
              refine rw_d (y := hd_75) rfl ?_
              refine lv_dcmp hx hb dNu_logarithm_57 ?_
              refine lv_if_ge (tgt := 76) hx hb dNu_logarithm_58 (by decide) (fun c58 => ?_) (fun c58 => ?_)
              · have e1 : ¬ FP.dcmp y hd_75 = some .lt := (fc_ge_g _).mp c58
                have e2 : (y, kr) = hd_x2 x0 := by rw [← hy3]; exact (l2_neg fw e1).symm
                have f3 : hd_ok y := ⟨by have := mt (hd_c75 hy1).mpr e1; omega, hy2⟩
                refine lv_dload_n hx hb dNu_logarithm_76 rfl (lv_at hl 0 rfl) ?_
                refine lv_dconst1 hx hb dNu_logarithm_77 ?_
                refine rw_d (y := hd_1) rfl ?_
                refine lv_dsub hx hb dNu_logarithm_78 (fb_n (hd_m1_b f3) (by decide)) ?_
                refine lv_dload_n hx hb dNu_logarithm_79 rfl (lv_at hl 0 rfl) ?_
                refine lv_dconst1 hx hb dNu_logarithm_80 ?_
                refine rw_d (y := hd_1) rfl ?_
                refine lv_dadd hx hb dNu_logarithm_81 (fb_n (hd_p1_b f3) (by decide)) ?_
                refine lv_ddiv hx hb dNu_logarithm_82 (fb_n (hd_z_b f3) (by decide)) ?_
                refine rw_d (y := hd_z y) rfl ?_
                refine lv_dstore (lv' := [(5, .double (hd_z y)), (2, .double y), (4, .int kr)]) hx hb dNu_logarithm_83 hl (by decide) rfl (fun ls hl => ?_)
                refine lv_dload hx hb dNu_logarithm_85 (lv_at hl 0 rfl) ?_
                refine lv_dload hx hb dNu_logarithm_87 (lv_at hl 0 rfl) ?_
                refine lv_dmul hx hb dNu_logarithm_89 (fb_n (hd_y_b f3) (by decide)) ?_
                refine lv_dstore (lv' := [(7, .double (FP.dmul (hd_z y) (hd_z y))), (5, .double (hd_z y)), (2, .double y), (4, .int kr)]) hx hb dNu_logarithm_90 hl (by decide) rfl (fun ls hl => ?_)
                refine lv_dconst0 hx hb dNu_logarithm_92 ?_
                refine rw_d (y := 0) rfl ?_
                refine lv_dstore (lv' := [(9, .double 0), (7, .double (FP.dmul (hd_z y) (hd_z y))), (5, .double (hd_z y)), (2, .double y), (4, .int kr)]) hx hb dNu_logarithm_93 hl (by decide) rfl (fun ls hl => ?_)
                refine lv_bipush (v := nI 19) hx hb dNu_logarithm_95 (by decide +kernel) ?_
                refine rw_i (y := jd 0) jd_0 ?_
                refine lv_istore (lv' := [(11, .int (jd 0)), (9, .double 0), (7, .double (FP.dmul (hd_z y) (hd_z y))), (5, .double (hd_z y)), (2, .double y), (4, .int kr)]) hx hb dNu_logarithm_97 hl (by decide) rfl (fun ls hl => ?_)
                have L99 : ∀ (n99 : Nat) (q : Nat), 10 - q < n99 → q ≤ 10 → ∀ (H : Heap) (locs : List Loc), va_P (dC, dI) vwCl ([]) H → va_D A ([]) → va_S A s.heap H locs → ∀ ls : Array Slot, lv_has ls 12 [(4, .int kr), (5, .double (hd_z y)), (7, .double (FP.dmul (hd_z y) (hd_z y))), (9, .double (hd_l3 (FP.dmul (hd_z y) (hd_z y)) q)), (11, .int (jd q))] → W p l e (headSpec wNu_logarithm ({ frames := 1, cells := 0, slots := 0, locals := 21 })).room s m [.double x0].toArray below meth c H locs 0 0 Q9 (F0 m 99 ls []) := by
                  intro n99
                  induction n99 with
                  | zero => intro q hm; exact absurd hm (Nat.not_lt_zero _)
                  | succ n99 ih99 =>
                    intro q hm99 hq H locs hP hD hS ls hl
                    refine lv_iload hx hb dNu_logarithm_99 (lv_at hl 4 rfl) ?_
                    refine lv_iconst (v := nI 1) hx hb dNu_logarithm_101 (by decide +kernel) ?_
                    refine lv_icmp_lt (tgt := 124) hx hb dNu_logarithm_102 (by decide) (fun c102 => ?_) (fun c102 => ?_)
                    · obtain rfl : q = 10 := (jd_lt1 q hq).mp c102
                      refine lv_ldc2d (v := 4611686018427387904) hx hb hown (hts _ tw_485) dNu_logarithm_124 ?_
                      refine rw_d (y := hd_2) rfl ?_
                      refine lv_dload hx hb dNu_logarithm_127 (lv_at hl 1 rfl) ?_
                      refine lv_dmul hx hb dNu_logarithm_129 (fb_n (hd_2z_b f3) (by decide)) ?_
                      refine lv_dload hx hb dNu_logarithm_130 (lv_at hl 3 rfl) ?_
                      refine lv_dmul hx hb dNu_logarithm_132 (fb_n (hd_2zs_b f3) (by decide)) ?_
                      refine lv_iload hx hb dNu_logarithm_133 (lv_at hl 0 rfl) ?_
                      refine lv_i2d hx hb dNu_logarithm_135 ?_
                      refine lv_ldc2d (v := 4604418534313441775) hx hb hown (hts _ tw_487) dNu_logarithm_136 ?_
                      refine rw_d (y := hd_l) rfl ?_
                      refine lv_dmul hx hb dNu_logarithm_139 (fb_n (hd_kl_b kr) (by decide)) ?_
                      refine lv_dadd hx hb dNu_logarithm_140 (fb_n (hd_le_b f3 kr) (by decide)) ?_
                      refine rw_d (y := hd_le y kr) rfl ?_
                      rw [hQ9]
                      exact ct_rd hx hb hr hlocks () (by unfold hd_ln; rw [← e2]) hP hD hS (Nat.le_refl _) (Nat.le_refl _) dNu_logarithm_141
                    · have hq2 : q ≠ 10 := fun z => c102 ((jd_lt1 q hq).mpr z)
                      refine lv_dload hx hb dNu_logarithm_105 (lv_at hl 3 rfl) ?_
                      refine lv_dload hx hb dNu_logarithm_107 (lv_at hl 2 rfl) ?_
                      refine lv_dmul hx hb dNu_logarithm_109 (fb_n (hd_l3y_b (hd_y_b f3) (k := q) (by omega)) (by decide)) ?_
                      refine lv_dconst1 hx hb dNu_logarithm_110 ?_
                      refine rw_d (y := hd_1) rfl ?_
                      refine lv_iload hx hb dNu_logarithm_111 (lv_at hl 4 rfl) ?_
                      refine rw_i (y := nI (19 - 2 * q)) (jd_n (by omega)) ?_
                      refine lv_i2d hx hb dNu_logarithm_113 ?_
                      refine lv_ddiv hx hb dNu_logarithm_114 (fb_n (hd_j_b (k := q) (by omega)) (by decide)) ?_
                      refine lv_dadd hx hb dNu_logarithm_115 (fb_n (hd_l3_b (hd_y_b f3) (q + 1) (by omega)) (by omega)) ?_
                      refine rw_d (y := hd_l3 (FP.dmul (hd_z y) (hd_z y)) (q + 1)) rfl ?_
                      refine lv_dstore (lv' := [(9, .double (hd_l3 (FP.dmul (hd_z y) (hd_z y)) (q + 1))), (4, .int kr), (5, .double (hd_z y)), (7, .double (FP.dmul (hd_z y) (hd_z y))), (11, .int (jd q))]) hx hb dNu_logarithm_116 hl (by decide) rfl (fun ls hl => ?_)
                      refine lv_iinc (v := jd (q + 1)) (lv' := [(11, .int (jd (q + 1))), (9, .double (hd_l3 (FP.dmul (hd_z y) (hd_z y)) (q + 1))), (4, .int kr), (5, .double (hd_z y)), (7, .double (FP.dmul (hd_z y) (hd_z y)))]) hx hb dNu_logarithm_118 hl (k := 4) rfl (jd_s q (by omega)) (by decide) rfl (fun ls hl => ?_)
                      refine lv_goto (tgt := 99) hx hb dNu_logarithm_121 (by decide) ?_
                      exact ih99 (q + 1) (by omega) (by omega) _ _ hP hD hS ls (lv_sub hl [2, 3, 4, 1, 0] rfl)
                exact L99 _ 0 (Nat.lt_succ_self _) (by omega) _ _ hP hD hS ls (lv_sub hl [5, 3, 2, 1, 0] rfl)
              · have e1 : FP.dcmp y hd_75 = some .lt := (fc_lt_g _).mp (Int32.not_le.mp c58)
                have e2 := (hd_c75 hy1).mp e1
                obtain ⟨fv, rfl⟩ : ∃ fv, fw = fv + 1 := ⟨fw - 1, by omega⟩
                have hy6 := hy1
                unfold hd_in at hy6
                have e3 : (FP.dmul y hd_2).toNat = y.toNat + 2 ^ 52 := fn_dbl (by omega) (by omega)
                have e4 : hd_in (FP.dmul y hd_2) := by unfold hd_in; rw [e3]; omega
                have e5 : hd_l2 fv (FP.dmul y hd_2) (kr - 1) = hd_x2 x0 := by rw [← hy3]; exact (l2_pos e1).symm
                refine lv_dload_n hx hb dNu_logarithm_61 rfl (lv_at hl 0 rfl) ?_
                refine lv_ldc2d (v := 4611686018427387904) hx hb hown (hts _ tw_485) dNu_logarithm_62 ?_
                refine rw_d (y := hd_2) rfl ?_
                refine lv_dmul hx hb dNu_logarithm_65 (fb_n (hd_in_b e4) (by decide)) ?_
                refine lv_dstore_n (lv' := [(2, .double (FP.dmul y hd_2)), (4, .int kr), (5, .int (nI tv))]) hx hb dNu_logarithm_66 rfl hl (by decide) rfl (fun ls hl => ?_)
                refine lv_iinc (v := kr - 1) (lv' := [(4, .int (kr - 1)), (2, .double (FP.dmul y hd_2)), (5, .int (nI tv))]) hx hb dNu_logarithm_67 hl (k := 1) rfl (kr_m1 _) (by decide) rfl (fun ls hl => ?_)
                refine lv_iinc (v := nI (tv + 1)) (lv' := [(5, .int (nI (tv + 1))), (4, .int (kr - 1)), (2, .double (FP.dmul y hd_2))]) hx hb dNu_logarithm_70 hl (k := 2) rfl (nI_1 _) (by decide) rfl (fun ls hl => ?_)
                refine lv_goto (tgt := 45) hx hb dNu_logarithm_73 (by decide) ?_
                exact ih45 (FP.dmul y hd_2) (kr - 1) fv (tv + 1) (by omega) e4 (by rw [e3]; omega) e5 (by rw [e3]; omega) (by omega) _ _ hP hD hS ls (lv_sub hl [2, 1, 0] rfl)
        exact L45 _ x kq 2000 0 (Nat.lt_succ_self _) hx5 d3 (by unfold hd_x2; rw [← d2]) (by omega) rfl _ _ hP hD hS ls (lv_sub hl [1, 2, 0] rfl)
      · have c16 : ¬ 2000 ≤ tu := fun q9 => c16 (show nI 2000 ≤ nI tu from (nI_leI (a := 2000) (b := tu) (by omega) (by omega)).mpr q9)
        refine lv_dload_n hx hb dNu_logarithm_19 rfl (lv_at hl 0 rfl) ?_
        refine lv_ldc2d (v := 4609434218613702656) hx hb hown (hts _ tw_484) dNu_logarithm_20 ?_
        refine rw_d (y := hd_15) rfl ?_
        refine lv_dcmp hx hb dNu_logarithm_23 ?_
        refine lv_if_lt (tgt := 42) hx hb dNu_logarithm_24 (by decide) (fun c24 => ?_) (fun c24 => ?_)
        · have d1 : ¬ (FP.dcmp x hd_15 = some .gt ∨ FP.dcmp x hd_15 = some .eq) := fun q => Int32.not_lt.mpr ((fc_ge_l _).mpr q) c24
          have d2 : (x, kq) = hd_l1 2000 x0 0 := by rw [← hf5]; exact (l1_neg fu d1).symm
          have d3 : x.toNat < 4609434218613702656 := by have := mt (hd_c15 hx5).mpr d1; omega
          have hx6 := hx5
          unfold hd_in at hx6
          refine lv_iconst (v := nI 0) hx hb dNu_logarithm_42 (by decide +kernel) ?_
          refine lv_istore (lv' := [(5, .int (nI 0)), (2, .double x), (4, .int kq)]) hx hb dNu_logarithm_43 hl (by decide) rfl (fun ls hl => ?_)
          have L45 : ∀ (n45 : Nat) (y : UInt64) (kr : Int32) (fw : Nat) (tv : Nat), fw < n45 → hd_in y → y.toNat < 4609434218613702656 → hd_l2 fw y kr = hd_x2 x0 → 4604930618986332160 ≤ y.toNat + fw * 2 ^ 52 → tv + fw = 2000 → ∀ (H : Heap) (locs : List Loc), va_P (dC, dI) vwCl ([]) H → va_D A ([]) → va_S A s.heap H locs → ∀ ls : Array Slot, lv_has ls 12 [(2, .double y), (4, .int kr), (5, .int (nI tv))] → W p l e (headSpec wNu_logarithm ({ frames := 1, cells := 0, slots := 0, locals := 21 })).room s m [.double x0].toArray below meth c H locs 0 0 Q9 (F0 m 45 ls []) := by
            intro n45
            induction n45 with
            | zero => intro y kr fw tv hm; exact absurd hm (Nat.not_lt_zero _)
            | succ n45 ih45 =>
              intro y kr fw tv hm45 hy1 hy2 hy3 hy4 ht6 H locs hP hD hS ls hl
              refine lv_iload hx hb dNu_logarithm_45 (lv_at hl 2 rfl) ?_
              refine lv_sipush (v := nI 2000) hx hb dNu_logarithm_47 (by decide +kernel) ?_
              refine lv_icmp_ge (tgt := 76) hx hb dNu_logarithm_50 (by decide) (fun c50 => ?_) (fun c50 => ?_)
              · have c50 : 2000 ≤ tv := (nI_leI (a := 2000) (b := tv) (by omega) (by omega)).mp (show nI 2000 ≤ nI tv from c50)
                obtain rfl : fw = 0 := by omega
                have e2 : (y, kr) = hd_x2 x0 := by rw [← hy3]; rfl
                have f3 : hd_ok y := ⟨by omega, hy2⟩
                refine lv_dload_n hx hb dNu_logarithm_76 rfl (lv_at hl 0 rfl) ?_
                refine lv_dconst1 hx hb dNu_logarithm_77 ?_
                refine rw_d (y := hd_1) rfl ?_
                refine lv_dsub hx hb dNu_logarithm_78 (fb_n (hd_m1_b f3) (by decide)) ?_
                refine lv_dload_n hx hb dNu_logarithm_79 rfl (lv_at hl 0 rfl) ?_
                refine lv_dconst1 hx hb dNu_logarithm_80 ?_
                refine rw_d (y := hd_1) rfl ?_
                refine lv_dadd hx hb dNu_logarithm_81 (fb_n (hd_p1_b f3) (by decide)) ?_
                refine lv_ddiv hx hb dNu_logarithm_82 (fb_n (hd_z_b f3) (by decide)) ?_
                refine rw_d (y := hd_z y) rfl ?_
                refine lv_dstore (lv' := [(5, .double (hd_z y)), (2, .double y), (4, .int kr)]) hx hb dNu_logarithm_83 hl (by decide) rfl (fun ls hl => ?_)
                refine lv_dload hx hb dNu_logarithm_85 (lv_at hl 0 rfl) ?_
                refine lv_dload hx hb dNu_logarithm_87 (lv_at hl 0 rfl) ?_
                refine lv_dmul hx hb dNu_logarithm_89 (fb_n (hd_y_b f3) (by decide)) ?_
                refine lv_dstore (lv' := [(7, .double (FP.dmul (hd_z y) (hd_z y))), (5, .double (hd_z y)), (2, .double y), (4, .int kr)]) hx hb dNu_logarithm_90 hl (by decide) rfl (fun ls hl => ?_)
                refine lv_dconst0 hx hb dNu_logarithm_92 ?_
                refine rw_d (y := 0) rfl ?_
                refine lv_dstore (lv' := [(9, .double 0), (7, .double (FP.dmul (hd_z y) (hd_z y))), (5, .double (hd_z y)), (2, .double y), (4, .int kr)]) hx hb dNu_logarithm_93 hl (by decide) rfl (fun ls hl => ?_)
                refine lv_bipush (v := nI 19) hx hb dNu_logarithm_95 (by decide +kernel) ?_
                refine rw_i (y := jd 0) jd_0 ?_
                refine lv_istore (lv' := [(11, .int (jd 0)), (9, .double 0), (7, .double (FP.dmul (hd_z y) (hd_z y))), (5, .double (hd_z y)), (2, .double y), (4, .int kr)]) hx hb dNu_logarithm_97 hl (by decide) rfl (fun ls hl => ?_)
                have L99 : ∀ (n99 : Nat) (q : Nat), 10 - q < n99 → q ≤ 10 → ∀ (H : Heap) (locs : List Loc), va_P (dC, dI) vwCl ([]) H → va_D A ([]) → va_S A s.heap H locs → ∀ ls : Array Slot, lv_has ls 12 [(4, .int kr), (5, .double (hd_z y)), (7, .double (FP.dmul (hd_z y) (hd_z y))), (9, .double (hd_l3 (FP.dmul (hd_z y) (hd_z y)) q)), (11, .int (jd q))] → W p l e (headSpec wNu_logarithm ({ frames := 1, cells := 0, slots := 0, locals := 21 })).room s m [.double x0].toArray below meth c H locs 0 0 Q9 (F0 m 99 ls []) := by
                  intro n99
                  induction n99 with
                  | zero => intro q hm; exact absurd hm (Nat.not_lt_zero _)
                  | succ n99 ih99 =>
                    intro q hm99 hq H locs hP hD hS ls hl
                    refine lv_iload hx hb dNu_logarithm_99 (lv_at hl 4 rfl) ?_
                    refine lv_iconst (v := nI 1) hx hb dNu_logarithm_101 (by decide +kernel) ?_
                    refine lv_icmp_lt (tgt := 124) hx hb dNu_logarithm_102 (by decide) (fun c102 => ?_) (fun c102 => ?_)
                    · obtain rfl : q = 10 := (jd_lt1 q hq).mp c102
                      refine lv_ldc2d (v := 4611686018427387904) hx hb hown (hts _ tw_485) dNu_logarithm_124 ?_
                      refine rw_d (y := hd_2) rfl ?_
                      refine lv_dload hx hb dNu_logarithm_127 (lv_at hl 1 rfl) ?_
                      refine lv_dmul hx hb dNu_logarithm_129 (fb_n (hd_2z_b f3) (by decide)) ?_
                      refine lv_dload hx hb dNu_logarithm_130 (lv_at hl 3 rfl) ?_
                      refine lv_dmul hx hb dNu_logarithm_132 (fb_n (hd_2zs_b f3) (by decide)) ?_
                      refine lv_iload hx hb dNu_logarithm_133 (lv_at hl 0 rfl) ?_
                      refine lv_i2d hx hb dNu_logarithm_135 ?_
                      refine lv_ldc2d (v := 4604418534313441775) hx hb hown (hts _ tw_487) dNu_logarithm_136 ?_
                      refine rw_d (y := hd_l) rfl ?_
                      refine lv_dmul hx hb dNu_logarithm_139 (fb_n (hd_kl_b kr) (by decide)) ?_
                      refine lv_dadd hx hb dNu_logarithm_140 (fb_n (hd_le_b f3 kr) (by decide)) ?_
                      refine rw_d (y := hd_le y kr) rfl ?_
                      rw [hQ9]
                      exact ct_rd hx hb hr hlocks () (by unfold hd_ln; rw [← e2]) hP hD hS (Nat.le_refl _) (Nat.le_refl _) dNu_logarithm_141
                    · have hq2 : q ≠ 10 := fun z => c102 ((jd_lt1 q hq).mpr z)
                      refine lv_dload hx hb dNu_logarithm_105 (lv_at hl 3 rfl) ?_
                      refine lv_dload hx hb dNu_logarithm_107 (lv_at hl 2 rfl) ?_
                      refine lv_dmul hx hb dNu_logarithm_109 (fb_n (hd_l3y_b (hd_y_b f3) (k := q) (by omega)) (by decide)) ?_
                      refine lv_dconst1 hx hb dNu_logarithm_110 ?_
                      refine rw_d (y := hd_1) rfl ?_
                      refine lv_iload hx hb dNu_logarithm_111 (lv_at hl 4 rfl) ?_
                      refine rw_i (y := nI (19 - 2 * q)) (jd_n (by omega)) ?_
                      refine lv_i2d hx hb dNu_logarithm_113 ?_
                      refine lv_ddiv hx hb dNu_logarithm_114 (fb_n (hd_j_b (k := q) (by omega)) (by decide)) ?_
                      refine lv_dadd hx hb dNu_logarithm_115 (fb_n (hd_l3_b (hd_y_b f3) (q + 1) (by omega)) (by omega)) ?_
                      refine rw_d (y := hd_l3 (FP.dmul (hd_z y) (hd_z y)) (q + 1)) rfl ?_
                      refine lv_dstore (lv' := [(9, .double (hd_l3 (FP.dmul (hd_z y) (hd_z y)) (q + 1))), (4, .int kr), (5, .double (hd_z y)), (7, .double (FP.dmul (hd_z y) (hd_z y))), (11, .int (jd q))]) hx hb dNu_logarithm_116 hl (by decide) rfl (fun ls hl => ?_)
                      refine lv_iinc (v := jd (q + 1)) (lv' := [(11, .int (jd (q + 1))), (9, .double (hd_l3 (FP.dmul (hd_z y) (hd_z y)) (q + 1))), (4, .int kr), (5, .double (hd_z y)), (7, .double (FP.dmul (hd_z y) (hd_z y)))]) hx hb dNu_logarithm_118 hl (k := 4) rfl (jd_s q (by omega)) (by decide) rfl (fun ls hl => ?_)
                      refine lv_goto (tgt := 99) hx hb dNu_logarithm_121 (by decide) ?_
                      exact ih99 (q + 1) (by omega) (by omega) _ _ hP hD hS ls (lv_sub hl [2, 3, 4, 1, 0] rfl)
                exact L99 _ 0 (Nat.lt_succ_self _) (by omega) _ _ hP hD hS ls (lv_sub hl [5, 3, 2, 1, 0] rfl)
              · have c50 : ¬ 2000 ≤ tv := fun q9 => c50 (show nI 2000 ≤ nI tv from (nI_leI (a := 2000) (b := tv) (by omega) (by omega)).mpr q9)
                refine lv_dload_n hx hb dNu_logarithm_53 rfl (lv_at hl 0 rfl) ?_
                refine lv_ldc2d (v := 4604930618986332160) hx hb hown (hts _ tw_486) dNu_logarithm_54 ?_
                refine rw_d (y := hd_75) rfl ?_
                refine lv_dcmp hx hb dNu_logarithm_57 ?_
                refine lv_if_ge (tgt := 76) hx hb dNu_logarithm_58 (by decide) (fun c58 => ?_) (fun c58 => ?_)
                · have e1 : ¬ FP.dcmp y hd_75 = some .lt := (fc_ge_g _).mp c58
                  have e2 : (y, kr) = hd_x2 x0 := by rw [← hy3]; exact (l2_neg fw e1).symm
                  have f3 : hd_ok y := ⟨by have := mt (hd_c75 hy1).mpr e1; omega, hy2⟩
                  refine lv_dload_n hx hb dNu_logarithm_76 rfl (lv_at hl 0 rfl) ?_
                  refine lv_dconst1 hx hb dNu_logarithm_77 ?_
                  refine rw_d (y := hd_1) rfl ?_
                  refine lv_dsub hx hb dNu_logarithm_78 (fb_n (hd_m1_b f3) (by decide)) ?_
                  refine lv_dload_n hx hb dNu_logarithm_79 rfl (lv_at hl 0 rfl) ?_
                  refine lv_dconst1 hx hb dNu_logarithm_80 ?_
                  refine rw_d (y := hd_1) rfl ?_
                  refine lv_dadd hx hb dNu_logarithm_81 (fb_n (hd_p1_b f3) (by decide)) ?_
                  refine lv_ddiv hx hb dNu_logarithm_82 (fb_n (hd_z_b f3) (by decide)) ?_
                  refine rw_d (y := hd_z y) rfl ?_
                  refine lv_dstore (lv' := [(5, .double (hd_z y)), (2, .double y), (4, .int kr)]) hx hb dNu_logarithm_83 hl (by decide) rfl (fun ls hl => ?_)
                  refine lv_dload hx hb dNu_logarithm_85 (lv_at hl 0 rfl) ?_
                  refine lv_dload hx hb dNu_logarithm_87 (lv_at hl 0 rfl) ?_
                  refine lv_dmul hx hb dNu_logarithm_89 (fb_n (hd_y_b f3) (by decide)) ?_
                  refine lv_dstore (lv' := [(7, .double (FP.dmul (hd_z y) (hd_z y))), (5, .double (hd_z y)), (2, .double y), (4, .int kr)]) hx hb dNu_logarithm_90 hl (by decide) rfl (fun ls hl => ?_)
                  refine lv_dconst0 hx hb dNu_logarithm_92 ?_
                  refine rw_d (y := 0) rfl ?_
                  refine lv_dstore (lv' := [(9, .double 0), (7, .double (FP.dmul (hd_z y) (hd_z y))), (5, .double (hd_z y)), (2, .double y), (4, .int kr)]) hx hb dNu_logarithm_93 hl (by decide) rfl (fun ls hl => ?_)
                  refine lv_bipush (v := nI 19) hx hb dNu_logarithm_95 (by decide +kernel) ?_
                  refine rw_i (y := jd 0) jd_0 ?_
                  refine lv_istore (lv' := [(11, .int (jd 0)), (9, .double 0), (7, .double (FP.dmul (hd_z y) (hd_z y))), (5, .double (hd_z y)), (2, .double y), (4, .int kr)]) hx hb dNu_logarithm_97 hl (by decide) rfl (fun ls hl => ?_)
                  have L99 : ∀ (n99 : Nat) (q : Nat), 10 - q < n99 → q ≤ 10 → ∀ (H : Heap) (locs : List Loc), va_P (dC, dI) vwCl ([]) H → va_D A ([]) → va_S A s.heap H locs → ∀ ls : Array Slot, lv_has ls 12 [(4, .int kr), (5, .double (hd_z y)), (7, .double (FP.dmul (hd_z y) (hd_z y))), (9, .double (hd_l3 (FP.dmul (hd_z y) (hd_z y)) q)), (11, .int (jd q))] → W p l e (headSpec wNu_logarithm ({ frames := 1, cells := 0, slots := 0, locals := 21 })).room s m [.double x0].toArray below meth c H locs 0 0 Q9 (F0 m 99 ls []) := by
                    intro n99
                    induction n99 with
                    | zero => intro q hm; exact absurd hm (Nat.not_lt_zero _)
                    | succ n99 ih99 =>
                      intro q hm99 hq H locs hP hD hS ls hl
                      refine lv_iload hx hb dNu_logarithm_99 (lv_at hl 4 rfl) ?_
                      refine lv_iconst (v := nI 1) hx hb dNu_logarithm_101 (by decide +kernel) ?_
                      refine lv_icmp_lt (tgt := 124) hx hb dNu_logarithm_102 (by decide) (fun c102 => ?_) (fun c102 => ?_)
                      · obtain rfl : q = 10 := (jd_lt1 q hq).mp c102
                        refine lv_ldc2d (v := 4611686018427387904) hx hb hown (hts _ tw_485) dNu_logarithm_124 ?_
                        refine rw_d (y := hd_2) rfl ?_
                        refine lv_dload hx hb dNu_logarithm_127 (lv_at hl 1 rfl) ?_
                        refine lv_dmul hx hb dNu_logarithm_129 (fb_n (hd_2z_b f3) (by decide)) ?_
                        refine lv_dload hx hb dNu_logarithm_130 (lv_at hl 3 rfl) ?_
                        refine lv_dmul hx hb dNu_logarithm_132 (fb_n (hd_2zs_b f3) (by decide)) ?_
                        refine lv_iload hx hb dNu_logarithm_133 (lv_at hl 0 rfl) ?_
                        refine lv_i2d hx hb dNu_logarithm_135 ?_
                        refine lv_ldc2d (v := 4604418534313441775) hx hb hown (hts _ tw_487) dNu_logarithm_136 ?_
                        refine rw_d (y := hd_l) rfl ?_
                        refine lv_dmul hx hb dNu_logarithm_139 (fb_n (hd_kl_b kr) (by decide)) ?_
                        refine lv_dadd hx hb dNu_logarithm_140 (fb_n (hd_le_b f3 kr) (by decide)) ?_
                        refine rw_d (y := hd_le y kr) rfl ?_
                        rw [hQ9]
                        exact ct_rd hx hb hr hlocks () (by unfold hd_ln; rw [← e2]) hP hD hS (Nat.le_refl _) (Nat.le_refl _) dNu_logarithm_141
                      · have hq2 : q ≠ 10 := fun z => c102 ((jd_lt1 q hq).mpr z)
                        refine lv_dload hx hb dNu_logarithm_105 (lv_at hl 3 rfl) ?_
                        refine lv_dload hx hb dNu_logarithm_107 (lv_at hl 2 rfl) ?_
                        refine lv_dmul hx hb dNu_logarithm_109 (fb_n (hd_l3y_b (hd_y_b f3) (k := q) (by omega)) (by decide)) ?_
                        refine lv_dconst1 hx hb dNu_logarithm_110 ?_
                        refine rw_d (y := hd_1) rfl ?_
                        refine lv_iload hx hb dNu_logarithm_111 (lv_at hl 4 rfl) ?_
                        refine rw_i (y := nI (19 - 2 * q)) (jd_n (by omega)) ?_
                        refine lv_i2d hx hb dNu_logarithm_113 ?_
                        refine lv_ddiv hx hb dNu_logarithm_114 (fb_n (hd_j_b (k := q) (by omega)) (by decide)) ?_
                        refine lv_dadd hx hb dNu_logarithm_115 (fb_n (hd_l3_b (hd_y_b f3) (q + 1) (by omega)) (by omega)) ?_
                        refine rw_d (y := hd_l3 (FP.dmul (hd_z y) (hd_z y)) (q + 1)) rfl ?_
                        refine lv_dstore (lv' := [(9, .double (hd_l3 (FP.dmul (hd_z y) (hd_z y)) (q + 1))), (4, .int kr), (5, .double (hd_z y)), (7, .double (FP.dmul (hd_z y) (hd_z y))), (11, .int (jd q))]) hx hb dNu_logarithm_116 hl (by decide) rfl (fun ls hl => ?_)
                        refine lv_iinc (v := jd (q + 1)) (lv' := [(11, .int (jd (q + 1))), (9, .double (hd_l3 (FP.dmul (hd_z y) (hd_z y)) (q + 1))), (4, .int kr), (5, .double (hd_z y)), (7, .double (FP.dmul (hd_z y) (hd_z y)))]) hx hb dNu_logarithm_118 hl (k := 4) rfl (jd_s q (by omega)) (by decide) rfl (fun ls hl => ?_)
                        refine lv_goto (tgt := 99) hx hb dNu_logarithm_121 (by decide) ?_
                        exact ih99 (q + 1) (by omega) (by omega) _ _ hP hD hS ls (lv_sub hl [2, 3, 4, 1, 0] rfl)
                  exact L99 _ 0 (Nat.lt_succ_self _) (by omega) _ _ hP hD hS ls (lv_sub hl [5, 3, 2, 1, 0] rfl)
                · have e1 : FP.dcmp y hd_75 = some .lt := (fc_lt_g _).mp (Int32.not_le.mp c58)
                  have e2 := (hd_c75 hy1).mp e1
                  obtain ⟨fv, rfl⟩ : ∃ fv, fw = fv + 1 := ⟨fw - 1, by omega⟩
                  have hy6 := hy1
                  unfold hd_in at hy6
                  have e3 : (FP.dmul y hd_2).toNat = y.toNat + 2 ^ 52 := fn_dbl (by omega) (by omega)
                  have e4 : hd_in (FP.dmul y hd_2) := by unfold hd_in; rw [e3]; omega
                  have e5 : hd_l2 fv (FP.dmul y hd_2) (kr - 1) = hd_x2 x0 := by rw [← hy3]; exact (l2_pos e1).symm
                  refine lv_dload_n hx hb dNu_logarithm_61 rfl (lv_at hl 0 rfl) ?_
                  refine lv_ldc2d (v := 4611686018427387904) hx hb hown (hts _ tw_485) dNu_logarithm_62 ?_
                  refine rw_d (y := hd_2) rfl ?_
                  refine lv_dmul hx hb dNu_logarithm_65 (fb_n (hd_in_b e4) (by decide)) ?_
                  refine lv_dstore_n (lv' := [(2, .double (FP.dmul y hd_2)), (4, .int kr), (5, .int (nI tv))]) hx hb dNu_logarithm_66 rfl hl (by decide) rfl (fun ls hl => ?_)
                  refine lv_iinc (v := kr - 1) (lv' := [(4, .int (kr - 1)), (2, .double (FP.dmul y hd_2)), (5, .int (nI tv))]) hx hb dNu_logarithm_67 hl (k := 1) rfl (kr_m1 _) (by decide) rfl (fun ls hl => ?_)
                  refine lv_iinc (v := nI (tv + 1)) (lv' := [(5, .int (nI (tv + 1))), (4, .int (kr - 1)), (2, .double (FP.dmul y hd_2))]) hx hb dNu_logarithm_70 hl (k := 2) rfl (nI_1 _) (by decide) rfl (fun ls hl => ?_)
                  refine lv_goto (tgt := 45) hx hb dNu_logarithm_73 (by decide) ?_
                  exact ih45 (FP.dmul y hd_2) (kr - 1) fv (tv + 1) (by omega) e4 (by rw [e3]; omega) e5 (by rw [e3]; omega) (by omega) _ _ hP hD hS ls (lv_sub hl [2, 1, 0] rfl)
          exact L45 _ x kq 2000 0 (Nat.lt_succ_self _) hx5 d3 (by unfold hd_x2; rw [← d2]) (by omega) rfl _ _ hP hD hS ls (lv_sub hl [1, 2, 0] rfl)
        · have d1 := (fc_ge_l _).mp (Int32.not_lt.mp c24)
          have d2 := (hd_c15 hx5).mp d1
          obtain ⟨fv, rfl⟩ : ∃ fv, fu = fv + 1 := ⟨fu - 1, by omega⟩
          have hx6 := hx5
          unfold hd_in at hx6
          have d3 : (FP.ddiv x hd_2).toNat = x.toNat - 2 ^ 52 := fn_half (by omega) (by omega)
          have d4 : hd_in (FP.ddiv x hd_2) := by unfold hd_in; rw [d3]; omega
          have d5 : hd_l1 fv (FP.ddiv x hd_2) (kq + 1) = hd_l1 2000 x0 0 := by rw [← hf5]; exact (l1_pos d1).symm
          refine lv_dload_n hx hb dNu_logarithm_27 rfl (lv_at hl 0 rfl) ?_
          refine lv_ldc2d (v := 4611686018427387904) hx hb hown (hts _ tw_485) dNu_logarithm_28 ?_
          refine rw_d (y := hd_2) rfl ?_
          refine lv_ddiv hx hb dNu_logarithm_31 (fb_n (hd_in_b d4) (by decide)) ?_
          refine lv_dstore_n (lv' := [(2, .double (FP.ddiv x hd_2)), (4, .int kq), (5, .int (nI tu))]) hx hb dNu_logarithm_32 rfl hl (by decide) rfl (fun ls hl => ?_)
          refine lv_iinc (v := kq + 1) (lv' := [(4, .int (kq + 1)), (2, .double (FP.ddiv x hd_2)), (5, .int (nI tu))]) hx hb dNu_logarithm_33 hl (k := 1) rfl (rfl) (by decide) rfl (fun ls hl => ?_)
          refine lv_iinc (v := nI (tu + 1)) (lv' := [(5, .int (nI (tu + 1))), (4, .int (kq + 1)), (2, .double (FP.ddiv x hd_2))]) hx hb dNu_logarithm_36 hl (k := 2) rfl (nI_1 _) (by decide) rfl (fun ls hl => ?_)
          refine lv_goto (tgt := 11) hx hb dNu_logarithm_39 (by decide) ?_
          exact ih11 (FP.ddiv x hd_2) (kq + 1) fv (tu + 1) (by omega) d4 d5 (by rw [d3]; omega) (by omega) _ _ hP hD hS ls (lv_sub hl [2, 1, 0] rfl)
  exact L11 _ x0 0 2000 0 (Nat.lt_succ_self _) h0 rfl (by unfold hd_in at h0; omega) rfl _ _ hP hD hS ls (lv_sub hl [2, 1, 0] rfl)
set_option maxHeartbeats 4000000 in
set_option maxRecDepth 100000 in
theorem kSo_weigh (l : Launch) (dC : Nat → ClassId) (dI : Nat → Nat → Nat) (k : Nat → ClassId) (b P : Nat → Nat) (I : Nat → Nat → Int32) (D : Nat → Nat → UInt64) (sz : Nat) (f : Nat) (hf : 16 * f + 32 ≤ 320) (hs : ∀ i, i < 32 → fb_ 1057 (D 1 (16 * f + i))) (hwi : ∀ j, j < 32 → D 7 j = hd_W j) : Met l ySo_weigh wSo_weigh ({ frames := 1, cells := 0, slots := 0, locals := 21 }) (va_Pc [.ref (b 7), .int (nI f)] (ct_pre (dC, dI) (de_ty k) ev_N (wd k b P I D) sz)) (va_Qv (fun (u : Nat → UInt64) => ∀ i, i < 32 → u i = hd_v (D 1) f i) (fun u t => ct_at (dC, dI) (va_A (wd k b P I D) sz) ((fun u => wd k b P I (us D 2 u)) u) t) (va_A (wd k b P I D) sz)) 0 0 (va_A (wd k b P I D) sz) := by
  refine Met.ofW (cc := cSo_weigh) (maxL := 3) (ret := none) (by decide) rfl ?_
  intro p e s m args below meth c s₁ B hml hv
  obtain ⟨rfl, hsz, hP, hK, hD0, hE⟩ := hv
  have hx := B.exec
  have hb := B.bytes
  have hr := B.returns
  have hts : ∀ w ∈ W0, w.before [.ref (b 7), .int (nI f)].toArray s = true := fun w h => atoms_spec (ws := wSo_weigh) B.pre w (List.mem_cons_of_mem _ h)
  have hown : s.vm.findClass RSo = some m.cls := findClass_of_methodNamed B.named
  have hlocks := B.notSynchronized
  subst hsz
  have hP0 := hP
  have hD := hD0.self (sz := s.heap.size)
  generalize hAe : va_A (wd k b P I D) s.heap.size = A at hD ⊢
  have hA : ∀ q : Nat, s.heap.size ≤ q → A q := fun q h => by rw [← hAe]; exact Or.inr h
  have hS : va_S A s.heap s.heap [] := va_S.rf
  have hl := lv_entry ([.ref (b 7), .int (nI f)]) (n := 3) (Nat.le_of_ble_eq_true rfl)
  rw [lg_entry_eq]
  generalize (lg_sl ([.ref (b 7), .int (nI f)]) ++ List.replicate (3 - (lg_sl ([.ref (b 7), .int (nI f)])).length) Slot.unset).toArray = ls at hl ⊢
  have hl : lv_has ls 3 [(0, .ref (b 7)), (1, .int (nI f))] := hl
  refine lp_q (fun Q9 hQ9 => ?_)
  refine lv_iconst (v := nI 0) hx hb dSo_weigh_0 (by decide +kernel) ?_
  refine lv_istore_n (lv' := [(2, .int (nI 0)), (0, .ref (b 7)), (1, .int (nI f))]) hx hb dSo_weigh_1 rfl hl (by decide) rfl (fun ls hl => ?_)
  rw [← us_id D 2] at hP hD
  have L2 : ∀ (n2 : Nat) (i : Nat) (v : Nat → UInt64), 32 - i < n2 → i ≤ 32 → (∀ q, q < i → v q = hd_v (D 1) f q) → ∀ (H : Heap) (locs : List Loc), va_P (dC, dI) vwCl (wd k b P I (us D 2 v)) H → va_D A (wd k b P I (us D 2 v)) → va_S A s.heap H locs → ∀ ls : Array Slot, lv_has ls 3 [(0, .ref (b 7)), (1, .int (nI f)), (2, .int (nI i))] → W p l e (headSpec wSo_weigh ({ frames := 1, cells := 0, slots := 0, locals := 21 })).room s m [.ref (b 7), .int (nI f)].toArray below meth c H locs 0 0 Q9 (F0 m 2 ls []) := by
    intro n2
    induction n2 with
    | zero => intro i v hm; exact absurd hm (Nat.not_lt_zero _)
    | succ n2 ih2 =>
      intro i v hm2 hi hv H locs hP hD hS ls hl
      refine lv_iload_n hx hb dSo_weigh_2 rfl (lv_at hl 2 rfl) ?_
      refine lv_bipush (v := nI 32) hx hb dSo_weigh_3 (by decide +kernel) ?_
      refine lv_icmp_ge (tgt := 44) hx hb dSo_weigh_5 (by decide) (fun c5 => ?_) (fun c5 => ?_)
      · have c5 : 32 ≤ i := (nI_leI (a := 32) (b := i) (by omega) (by omega)).mp (show nI 32 ≤ nI i from c5)
        rw [hQ9]
        exact ct_rv hx hb hr hlocks v (fun q hq => hv q (by omega)) hP hD hS (Nat.le_refl _) (Nat.le_refl _) dSo_weigh_44
      · have c5 : ¬ 32 ≤ i := fun q9 => c5 (show nI 32 ≤ nI i from (nI_leI (a := 32) (b := i) (by omega) (by omega)).mpr q9)
        refine lv_aload_n hx hb dSo_weigh_8 rfl (lv_at hl 0 rfl) ?_
        refine va_get (D := (dC, dI)) (ci := 3) (v := .ref (b 9)) (C := RSo) (T := TSo) (N := 7) hx hb hts inSo hown hK hP 7 rfl rfl 2 (by decide) (hts _ tw_77) (fun _ h9 => h9) rfl dSo_weigh_9 ?_
        refine lv_iload_n hx hb dSo_weigh_12 rfl (lv_at hl 2 rfl) ?_
        refine lv_aload_n hx hb dSo_weigh_13 rfl (lv_at hl 0 rfl) ?_
        refine va_get (D := (dC, dI)) (ci := 3) (v := .ref (b 8)) (C := RSo) (T := TSo) (N := 7) hx hb hts inSo hown hK hP 7 rfl rfl 1 (by decide) (hts _ tw_75) (fun _ h9 => h9) rfl dSo_weigh_14 ?_
        refine lv_bipush (v := nI 16) hx hb dSo_weigh_17 (by decide +kernel) ?_
        refine lv_iload_n hx hb dSo_weigh_19 rfl (lv_at hl 1 rfl) ?_
        refine lv_imul hx hb dSo_weigh_20 ?_
        refine rw_i (y := nI (16 * f)) (pk_mul _ _) ?_
        refine lv_iload_n hx hb dSo_weigh_21 rfl (lv_at hl 2 rfl) ?_
        refine lv_iadd hx hb dSo_weigh_22 ?_
        refine rw_i (y := nI ((16 * f) + i)) (nI_add _ _) ?_
        refine rw_ald_d hx hb hK hP 8 1 rfl rfl (by omega) (by decide) dSo_weigh_23 ?_
        refine rw_d (y := D 1 (16 * f + i)) (by rw [us_o _ _ (by decide)]) ?_
        have hP : va_P (dC, dI) vwCl ([] ++ ([] ++ (wd k b P I (us D 2 v)))) _ := hP
        have hD : va_D A ([] ++ ([] ++ (wd k b P I (us D 2 v)))) := hD
        refine sg_d (va_runS (As := [.double (D 1 (16 * f + i))]) (rest := [.int (nI i), .ref (b 9)]) ⟨hx, hb, hml, hown, hts⟩ (kNu_finite l dC dI k b P I D _ (D 1 (16 * f + i)) (fb_mono (hs i (by omega)) (by decide))) (va_cwS 1 hts (gw_S tw_456 tw_427 tw_15 tw_428) rfl rfl rfl (by decide +kernel) ⟨Nat.le_of_ble_eq_true rfl, Nat.le_of_ble_eq_true rfl⟩) ⟨ct_blind (ev := fun _ => True) (fun _ _ _ _ h => h), ct_now (A := A) (ev := fun _ => True) (fun _ _ _ => trivial) (sg_Pc hP) hK (sg_Dc hD)⟩ rfl rfl hl.1 rfl (lv_room (Nat.le_of_ble_eq_true rfl)) dSo_weigh_24 ⟨Nat.le_of_ble_eq_true rfl, Nat.le_of_ble_eq_true rfl⟩) hP hD hS hA (fun r1 u1 H locs hw1 hP hD hS => ?_)
        have hP : va_P (dC, dI) vwCl (wd k b P I (us D 2 v)) H := hP
        have hD : va_D A (wd k b P I (us D 2 v)) := hD
        subst hw1
        refine lv_aload_n hx hb dSo_weigh_27 rfl (lv_at hl 0 rfl) ?_
        refine va_get (D := (dC, dI)) (ci := 3) (v := .ref (b 3)) (C := RSo) (T := TSo) (N := 7) hx hb hts inSo hown hK hP 7 rfl rfl 0 (by decide) (hts _ tw_74) (fun _ h9 => h9) rfl dSo_weigh_28 ?_
        refine va_getN (D := (dC, dI)) (ci := 0) (v := .ref (b 6)) (C := RCi) (T := TCi) (N := 3) hx hb hts inCi hown hK hP 3 rfl rfl 2 (by decide) (va_Nw.use rfl (hE _ en_59)) (fun _ h9 => h9) rfl dSo_weigh_31 ?_
        refine lv_iload_n hx hb dSo_weigh_34 rfl (lv_at hl 2 rfl) ?_
        refine rw_ald_d hx hb hK hP 6 1 rfl rfl (by omega) (by decide) dSo_weigh_35 ?_
        refine rw_d (y := hd_W i) (by rw [us_o _ _ (by decide)]; exact hwi _ (by omega)) ?_
        refine lv_dmul hx hb dSo_weigh_36 (fb_n (hd_v_b hs (i := i) (by omega)) (by decide)) ?_
        refine rw_d (y := hd_v (D 1) f i) rfl ?_
        refine rw_ast_d hx hb hK hP hD hS 9 1 rfl rfl (by omega) (by decide) dSo_weigh_37 (fun H locs hP hD hS => ?_)
        rw [wd_a9] at hP hD
        obtain ⟨D2, eD2⟩ : ∃ z, z = ud (us D 2 v) 2 i (hd_v (D 1) f i) := ⟨_, rfl⟩
        rw [← eD2] at hP hD
        refine lv_iinc (v := nI (i + 1)) (lv' := [(2, .int (nI (i + 1))), (0, .ref (b 7)), (1, .int (nI f))]) hx hb dSo_weigh_38 hl (k := 2) rfl (nI_1 _) (by decide) rfl (fun ls hl => ?_)
        refine lv_goto (tgt := 2) hx hb dSo_weigh_41 (by decide) ?_
        rw [eD2] at hP hD
        rw [ud_us] at hP hD
        exact ih2 (i + 1) (vf_upd v i (hd_v (D 1) f i)) (by omega) (by omega) (fill_1 hv rfl) _ _ hP hD hS ls (lv_sub hl [1, 2, 0] rfl)
  exact L2 _ 0 (D 2) (Nat.lt_succ_self _) (by omega) (fun q hq => absurd hq (Nat.not_lt_zero _)) _ _ hP hD hS ls (lv_sub hl [1, 2, 0] rfl)
set_option maxHeartbeats 4000000 in
set_option maxRecDepth 100000 in
theorem kSo_strength (l : Launch) (dC : Nat → ClassId) (dI : Nat → Nat → Nat) (k : Nat → ClassId) (b P : Nat → Nat) (I : Nat → Nat → Int32) (D : Nat → Nat → UInt64) (sz : Nat) (f kk : Nat) (sa : Nat → UInt64) (hk : kk ≤ 16) (hs : ∀ i, i < 32 → fb_ 1057 (sa (16 * f + i))) (hv2 : ∀ i, i < 32 → D 2 i = hd_v sa f i) (hc : ∀ j, j < 32 → D 5 j = hd_C j) (hsn : ∀ j, j < 32 → D 6 j = hd_S j) : Met l ySo_strength wSo_strength ({ frames := 0, cells := 0, slots := 0, locals := 0 }) (va_Pc [.ref (b 7), .int (nI kk)] (ct_pre (dC, dI) (de_ty k) ev_N (wd k b P I D) sz)) (va_Qd (fun r (_ : Unit) => r = hd_P sa f kk) (fun u t => ct_at (dC, dI) (va_A (wd k b P I D) sz) ((fun _ => wd k b P I D) u) t) (va_A (wd k b P I D) sz)) 0 0 (va_A (wd k b P I D) sz) := by
  refine Met.ofW (cc := cSo_strength) (maxL := 8) (ret := (some .double)) (by decide) rfl ?_
  intro p e s m args below meth c s₁ B hml hv
  obtain ⟨rfl, hsz, hP, hK, hD0, hE⟩ := hv
  have hx := B.exec
  have hb := B.bytes
  have hr := B.returns
  have hts : ∀ w ∈ W0, w.before [.ref (b 7), .int (nI kk)].toArray s = true := fun w h => atoms_spec (ws := wSo_strength) B.pre w (List.mem_cons_of_mem _ h)
  have hown : s.vm.findClass RSo = some m.cls := findClass_of_methodNamed B.named
  have hlocks := B.notSynchronized
  subst hsz
  have hP0 := hP
  have hD := hD0.self (sz := s.heap.size)
  generalize hAe : va_A (wd k b P I D) s.heap.size = A at hD ⊢
  have hA : ∀ q : Nat, s.heap.size ≤ q → A q := fun q h => by rw [← hAe]; exact Or.inr h
  have hS : va_S A s.heap s.heap [] := va_S.rf
  have hl := lv_entry ([.ref (b 7), .int (nI kk)]) (n := 8) (Nat.le_of_ble_eq_true rfl)
  rw [lg_entry_eq]
  generalize (lg_sl ([.ref (b 7), .int (nI kk)]) ++ List.replicate (8 - (lg_sl ([.ref (b 7), .int (nI kk)])).length) Slot.unset).toArray = ls at hl ⊢
  have hl : lv_has ls 8 [(0, .ref (b 7)), (1, .int (nI kk))] := hl
  refine lp_q (fun Q9 hQ9 => ?_)
  refine lv_dconst0 hx hb dSo_strength_0 ?_
  refine rw_d (y := 0) rfl ?_
  refine lv_dstore_n (lv' := [(2, .double 0), (0, .ref (b 7)), (1, .int (nI kk))]) hx hb dSo_strength_1 rfl hl (by decide) rfl (fun ls hl => ?_)
  refine lv_dconst0 hx hb dSo_strength_2 ?_
  refine rw_d (y := 0) rfl ?_
  refine lv_dstore (lv' := [(4, .double 0), (2, .double 0), (0, .ref (b 7)), (1, .int (nI kk))]) hx hb dSo_strength_3 hl (by decide) rfl (fun ls hl => ?_)
  refine lv_iconst (v := nI 0) hx hb dSo_strength_5 (by decide +kernel) ?_
  refine lv_istore (lv' := [(6, .int (nI 0)), (4, .double 0), (2, .double 0), (0, .ref (b 7)), (1, .int (nI kk))]) hx hb dSo_strength_6 hl (by decide) rfl (fun ls hl => ?_)
  have L8 : ∀ (n8 : Nat) (i : Nat), 32 - i < n8 → i ≤ 32 → ∀ (H : Heap) (locs : List Loc), va_P (dC, dI) vwCl (wd k b P I D) H → va_D A (wd k b P I D) → va_S A s.heap H locs → ∀ ls : Array Slot, lv_has ls 8 [(0, .ref (b 7)), (1, .int (nI kk)), (2, .double (hd_re sa f kk i)), (4, .double (hd_im sa f kk i)), (6, .int (nI i))] → W p l e (headSpec wSo_strength ({ frames := 0, cells := 0, slots := 0, locals := 0 })).room s m [.ref (b 7), .int (nI kk)].toArray below meth c H locs 0 0 Q9 (F0 m 8 ls []) := by
    intro n8
    induction n8 with
    | zero => intro i hm; exact absurd hm (Nat.not_lt_zero _)
    | succ n8 ih8 =>
      intro i hm8 hi H locs hP hD hS ls hl
      refine lv_iload hx hb dSo_strength_8 (lv_at hl 4 rfl) ?_
      refine lv_bipush (v := nI 32) hx hb dSo_strength_10 (by decide +kernel) ?_
      refine lv_icmp_ge (tgt := 74) hx hb dSo_strength_12 (by decide) (fun c12 => ?_) (fun c12 => ?_)
      · have c12 : 32 ≤ i := (nI_leI (a := 32) (b := i) (by omega) (by omega)).mp (show nI 32 ≤ nI i from c12)
        obtain rfl : i = 32 := by omega
        refine lv_dload_n hx hb dSo_strength_74 rfl (lv_at hl 2 rfl) ?_
        refine lv_dload_n hx hb dSo_strength_75 rfl (lv_at hl 2 rfl) ?_
        refine lv_dmul hx hb dSo_strength_76 (fb_n (hd_re2_b hs kk) (by decide)) ?_
        refine lv_dload hx hb dSo_strength_77 (lv_at hl 3 rfl) ?_
        refine lv_dload hx hb dSo_strength_79 (lv_at hl 3 rfl) ?_
        refine lv_dmul hx hb dSo_strength_81 (fb_n (hd_im2_b hs kk) (by decide)) ?_
        refine lv_dadd hx hb dSo_strength_82 (fb_n (hd_P_b hs kk) (by decide)) ?_
        refine rw_d (y := hd_P sa f kk) rfl ?_
        rw [hQ9]
        exact ct_rd hx hb hr hlocks () rfl hP hD hS (Nat.le_refl _) (Nat.le_refl _) dSo_strength_83
      · have c12 : ¬ 32 ≤ i := fun q9 => c12 (show nI 32 ≤ nI i from (nI_leI (a := 32) (b := i) (by omega) (by omega)).mpr q9)
        refine lv_iload_n hx hb dSo_strength_15 rfl (lv_at hl 1 rfl) ?_
        refine lv_iload hx hb dSo_strength_16 (lv_at hl 4 rfl) ?_
        have hki : kk * i ≤ 16 * 32 := Nat.mul_le_mul hk (by omega)
        refine lv_imul hx hb dSo_strength_18 ?_
        refine rw_i (y := nI (kk * i)) (pk_mul _ _) ?_
        refine lv_bipush (v := nI 32) hx hb dSo_strength_19 (by decide +kernel) ?_
        refine lv_irem hx hb dSo_strength_21 (by decide +kernel) ?_
        refine rw_i (y := nI ((kk * i) % 32)) (pk_rem (by omega) (by omega) (by omega)) ?_
        refine lv_istore (lv' := [(7, .int (nI ((kk * i) % 32))), (0, .ref (b 7)), (1, .int (nI kk)), (2, .double (hd_re sa f kk i)), (4, .double (hd_im sa f kk i)), (6, .int (nI i))]) hx hb dSo_strength_22 hl (by decide) rfl (fun ls hl => ?_)
        refine lv_dload_n hx hb dSo_strength_24 rfl (lv_at hl 3 rfl) ?_
        refine lv_aload_n hx hb dSo_strength_25 rfl (lv_at hl 1 rfl) ?_
        refine va_get (D := (dC, dI)) (ci := 3) (v := .ref (b 9)) (C := RSo) (T := TSo) (N := 7) hx hb hts inSo hown hK hP 7 rfl rfl 2 (by decide) (hts _ tw_77) (fun _ h9 => h9) rfl dSo_strength_26 ?_
        refine lv_iload hx hb dSo_strength_29 (lv_at hl 5 rfl) ?_
        refine rw_ald_d hx hb hK hP 9 1 rfl rfl (by omega) (by decide) dSo_strength_31 ?_
        refine rw_d (y := hd_v sa f i) (hv2 _ (by omega)) ?_
        refine lv_aload_n hx hb dSo_strength_32 rfl (lv_at hl 1 rfl) ?_
        refine va_get (D := (dC, dI)) (ci := 3) (v := .ref (b 3)) (C := RSo) (T := TSo) (N := 7) hx hb hts inSo hown hK hP 7 rfl rfl 0 (by decide) (hts _ tw_74) (fun _ h9 => h9) rfl dSo_strength_33 ?_
        refine va_getN (D := (dC, dI)) (ci := 0) (v := .ref (b 4)) (C := RCi) (T := TCi) (N := 3) hx hb hts inCi hown hK hP 3 rfl rfl 0 (by decide) (va_Nw.use rfl (hE _ en_55)) (fun _ h9 => h9) rfl dSo_strength_36 ?_
        refine lv_iload hx hb dSo_strength_39 (lv_at hl 0 rfl) ?_
        refine rw_ald_d hx hb hK hP 4 1 rfl rfl (Nat.mod_lt _ (by decide)) (by decide) dSo_strength_41 ?_
        refine rw_d (y := hd_C ((kk * i) % 32)) (hc _ (Nat.mod_lt _ (by decide))) ?_
        refine lv_dmul hx hb dSo_strength_42 (fb_n (hd_vc_b hs (i := i) (by omega) (Nat.mod_lt _ (by decide))) (by decide)) ?_
        refine lv_dadd hx hb dSo_strength_43 (fb_n (hd_re_b hs kk (i + 1) (by omega)) (by omega)) ?_
        refine rw_d (y := hd_re sa f kk (i + 1)) rfl ?_
        refine lv_dstore_n (lv' := [(2, .double (hd_re sa f kk (i + 1))), (7, .int (nI ((kk * i) % 32))), (0, .ref (b 7)), (1, .int (nI kk)), (4, .double (hd_im sa f kk i)), (6, .int (nI i))]) hx hb dSo_strength_44 rfl hl (by decide) rfl (fun ls hl => ?_)
        refine lv_dload hx hb dSo_strength_45 (lv_at hl 4 rfl) ?_
        refine lv_aload_n hx hb dSo_strength_47 rfl (lv_at hl 2 rfl) ?_
        refine va_get (D := (dC, dI)) (ci := 3) (v := .ref (b 9)) (C := RSo) (T := TSo) (N := 7) hx hb hts inSo hown hK hP 7 rfl rfl 2 (by decide) (hts _ tw_77) (fun _ h9 => h9) rfl dSo_strength_48 ?_
        refine lv_iload hx hb dSo_strength_51 (lv_at hl 5 rfl) ?_
        refine rw_ald_d hx hb hK hP 9 1 rfl rfl (by omega) (by decide) dSo_strength_53 ?_
        refine rw_d (y := hd_v sa f i) (hv2 _ (by omega)) ?_
        refine lv_aload_n hx hb dSo_strength_54 rfl (lv_at hl 2 rfl) ?_
        refine va_get (D := (dC, dI)) (ci := 3) (v := .ref (b 3)) (C := RSo) (T := TSo) (N := 7) hx hb hts inSo hown hK hP 7 rfl rfl 0 (by decide) (hts _ tw_74) (fun _ h9 => h9) rfl dSo_strength_55 ?_
        refine va_getN (D := (dC, dI)) (ci := 0) (v := .ref (b 5)) (C := RCi) (T := TCi) (N := 3) hx hb hts inCi hown hK hP 3 rfl rfl 1 (by decide) (va_Nw.use rfl (hE _ en_57)) (fun _ h9 => h9) rfl dSo_strength_58 ?_
        refine lv_iload hx hb dSo_strength_61 (lv_at hl 1 rfl) ?_
        refine rw_ald_d hx hb hK hP 5 1 rfl rfl (Nat.mod_lt _ (by decide)) (by decide) dSo_strength_63 ?_
        refine rw_d (y := hd_S ((kk * i) % 32)) (hsn _ (Nat.mod_lt _ (by decide))) ?_
        refine lv_dmul hx hb dSo_strength_64 (fb_n (hd_vs_b hs (i := i) (by omega) (Nat.mod_lt _ (by decide))) (by decide)) ?_
        refine lv_dsub hx hb dSo_strength_65 (fb_n (hd_im_b hs kk (i + 1) (by omega)) (by omega)) ?_
        refine rw_d (y := hd_im sa f kk (i + 1)) rfl ?_
        refine lv_dstore (lv' := [(4, .double (hd_im sa f kk (i + 1))), (2, .double (hd_re sa f kk (i + 1))), (7, .int (nI ((kk * i) % 32))), (0, .ref (b 7)), (1, .int (nI kk)), (6, .int (nI i))]) hx hb dSo_strength_66 hl (by decide) rfl (fun ls hl => ?_)
        refine lv_iinc (v := nI (i + 1)) (lv' := [(6, .int (nI (i + 1))), (4, .double (hd_im sa f kk (i + 1))), (2, .double (hd_re sa f kk (i + 1))), (7, .int (nI ((kk * i) % 32))), (0, .ref (b 7)), (1, .int (nI kk))]) hx hb dSo_strength_68 hl (k := 5) rfl (nI_1 _) (by decide) rfl (fun ls hl => ?_)
        refine lv_goto (tgt := 8) hx hb dSo_strength_71 (by decide) ?_
        exact ih8 (i + 1) (by omega) (by omega) _ _ hP hD hS ls (lv_sub hl [4, 5, 2, 1, 0] rfl)
  exact L8 _ 0 (Nat.lt_succ_self _) (by omega) _ _ hP hD hS ls (lv_sub hl [3, 4, 2, 1, 0] rfl)
set_option maxHeartbeats 4000000 in
set_option maxRecDepth 100000 in
theorem kSo_loudness (l : Launch) (dC : Nat → ClassId) (dI : Nat → Nat → Nat) (k : Nat → ClassId) (b P : Nat → Nat) (I : Nat → Nat → Int32) (D : Nat → Nat → UInt64) (sz : Nat) (f : Nat) (sa : Nat → UInt64) (hf : f < 19) (hs : ∀ i, i < 32 → fb_ 1057 (sa (16 * f + i))) (hsu : ∀ j, j < 4 → D 3 (4 * f + j) = hd_su sa f j) : Met l ySo_loudness wSo_loudness ({ frames := 0, cells := 0, slots := 0, locals := 0 }) (va_Pc [.ref (b 7), .int (nI f)] (ct_pre (dC, dI) (de_ty k) (fun _ => True) (wd k b P I D) sz)) (va_Qd (fun r (_ : Unit) => r = hd_lo sa f 4) (fun u t => ct_at (dC, dI) (va_A (wd k b P I D) sz) ((fun _ => wd k b P I D) u) t) (va_A (wd k b P I D) sz)) 0 0 (va_A (wd k b P I D) sz) := by
  refine Met.ofW (cc := cSo_loudness) (maxL := 5) (ret := (some .double)) (by decide) rfl ?_
  intro p e s m args below meth c s₁ B hml hv
  obtain ⟨rfl, hsz, hP, hK, hD0, hE⟩ := hv
  have hx := B.exec
  have hb := B.bytes
  have hr := B.returns
  have hts : ∀ w ∈ W0, w.before [.ref (b 7), .int (nI f)].toArray s = true := fun w h => atoms_spec (ws := wSo_loudness) B.pre w (List.mem_cons_of_mem _ h)
  have hown : s.vm.findClass RSo = some m.cls := findClass_of_methodNamed B.named
  have hlocks := B.notSynchronized
  subst hsz
  have hP0 := hP
  have hD := hD0.self (sz := s.heap.size)
  generalize hAe : va_A (wd k b P I D) s.heap.size = A at hD ⊢
  have hA : ∀ q : Nat, s.heap.size ≤ q → A q := fun q h => by rw [← hAe]; exact Or.inr h
  have hS : va_S A s.heap s.heap [] := va_S.rf
  have hl := lv_entry ([.ref (b 7), .int (nI f)]) (n := 5) (Nat.le_of_ble_eq_true rfl)
  rw [lg_entry_eq]
  generalize (lg_sl ([.ref (b 7), .int (nI f)]) ++ List.replicate (5 - (lg_sl ([.ref (b 7), .int (nI f)])).length) Slot.unset).toArray = ls at hl ⊢
  have hl : lv_has ls 5 [(0, .ref (b 7)), (1, .int (nI f))] := hl
  refine lp_q (fun Q9 hQ9 => ?_)
  refine lv_dconst0 hx hb dSo_loudness_0 ?_
  refine rw_d (y := 0) rfl ?_
  refine lv_dstore_n (lv' := [(2, .double 0), (0, .ref (b 7)), (1, .int (nI f))]) hx hb dSo_loudness_1 rfl hl (by decide) rfl (fun ls hl => ?_)
  refine lv_iconst (v := nI 0) hx hb dSo_loudness_2 (by decide +kernel) ?_
  refine lv_istore (lv' := [(4, .int (nI 0)), (2, .double 0), (0, .ref (b 7)), (1, .int (nI f))]) hx hb dSo_loudness_3 hl (by decide) rfl (fun ls hl => ?_)
  have L5 : ∀ (n5 : Nat) (bb : Nat), 4 - bb < n5 → bb ≤ 4 → ∀ (H : Heap) (locs : List Loc), va_P (dC, dI) vwCl (wd k b P I D) H → va_D A (wd k b P I D) → va_S A s.heap H locs → ∀ ls : Array Slot, lv_has ls 5 [(0, .ref (b 7)), (1, .int (nI f)), (2, .double (hd_lo sa f bb)), (4, .int (nI bb))] → W p l e (headSpec wSo_loudness ({ frames := 0, cells := 0, slots := 0, locals := 0 })).room s m [.ref (b 7), .int (nI f)].toArray below meth c H locs 0 0 Q9 (F0 m 5 ls []) := by
    intro n5
    induction n5 with
    | zero => intro bb hm; exact absurd hm (Nat.not_lt_zero _)
    | succ n5 ih5 =>
      intro bb hm5 hi H locs hP hD hS ls hl
      refine lv_iload hx hb dSo_loudness_5 (lv_at hl 3 rfl) ?_
      refine lv_iconst (v := nI 4) hx hb dSo_loudness_7 (by decide +kernel) ?_
      refine lv_icmp_ge (tgt := 31) hx hb dSo_loudness_8 (by decide) (fun c8 => ?_) (fun c8 => ?_)
      · have c8 : 4 ≤ bb := (nI_leI (a := 4) (b := bb) (by omega) (by omega)).mp (show nI 4 ≤ nI bb from c8)
        obtain rfl : bb = 4 := by omega
        refine lv_dload_n hx hb dSo_loudness_31 rfl (lv_at hl 2 rfl) ?_
        rw [hQ9]
        exact ct_rd hx hb hr hlocks () rfl hP hD hS (Nat.le_refl _) (Nat.le_refl _) dSo_loudness_32
      · have c8 : ¬ 4 ≤ bb := fun q9 => c8 (show nI 4 ≤ nI bb from (nI_leI (a := 4) (b := bb) (by omega) (by omega)).mpr q9)
        refine lv_dload_n hx hb dSo_loudness_11 rfl (lv_at hl 2 rfl) ?_
        refine lv_aload_n hx hb dSo_loudness_12 rfl (lv_at hl 0 rfl) ?_
        refine va_get (D := (dC, dI)) (ci := 3) (v := .ref (b 10)) (C := RSo) (T := TSo) (N := 7) hx hb hts inSo hown hK hP 7 rfl rfl 3 (by decide) (hts _ tw_78) (fun _ h9 => h9) rfl dSo_loudness_13 ?_
        refine lv_iload_n hx hb dSo_loudness_16 rfl (lv_at hl 1 rfl) ?_
        refine lv_iconst (v := nI 4) hx hb dSo_loudness_17 (by decide +kernel) ?_
        refine lv_imul hx hb dSo_loudness_18 ?_
        refine rw_i (y := nI (f * 4)) (pk_mul _ _) ?_
        refine lv_iload hx hb dSo_loudness_19 (lv_at hl 3 rfl) ?_
        refine lv_iadd hx hb dSo_loudness_21 ?_
        refine rw_i (y := nI ((f * 4) + bb)) (nI_add _ _) ?_
        refine rw_ald_d hx hb hK hP 10 1 rfl rfl (by omega) (by decide) dSo_loudness_22 ?_
        refine rw_d (y := hd_su sa f bb) ((congrArg (D 3) (by omega)).trans (hsu bb (by omega))) ?_
        refine lv_dadd hx hb dSo_loudness_23 (fb_n (hd_lo_b hs (bb + 1) (by omega)) (by omega)) ?_
        refine rw_d (y := hd_lo sa f (bb + 1)) rfl ?_
        refine lv_dstore_n (lv' := [(2, .double (hd_lo sa f (bb + 1))), (0, .ref (b 7)), (1, .int (nI f)), (4, .int (nI bb))]) hx hb dSo_loudness_24 rfl hl (by decide) rfl (fun ls hl => ?_)
        refine lv_iinc (v := nI (bb + 1)) (lv' := [(4, .int (nI (bb + 1))), (2, .double (hd_lo sa f (bb + 1))), (0, .ref (b 7)), (1, .int (nI f))]) hx hb dSo_loudness_25 hl (k := 3) rfl (nI_1 _) (by decide) rfl (fun ls hl => ?_)
        refine lv_goto (tgt := 5) hx hb dSo_loudness_28 (by decide) ?_
        exact ih5 (bb + 1) (by omega) (by omega) _ _ hP hD hS ls (lv_sub hl [2, 3, 1, 0] rfl)
  exact L5 _ 0 (Nat.lt_succ_self _) (by omega) _ _ hP hD hS ls (lv_sub hl [2, 3, 1, 0] rfl)
set_option maxHeartbeats 4000000 in
set_option maxRecDepth 100000 in
theorem kSo_judgeBand (l : Launch) (dC : Nat → ClassId) (dI : Nat → Nat → Nat) (k : Nat → ClassId) (b P : Nat → Nat) (I : Nat → Nat → Int32) (D : Nat → Nat → UInt64) (sz : Nat) (at9 lo hi9 f cn : Nat) (sa : Nat → UInt64) (ha : at9 < 76) (hlo : lo ≤ 9) (hhi : lo + cn = hi9 + 1) (hcn : cn ≤ 8) (hs : ∀ i, i < 32 → fb_ 1057 (sa (16 * f + i))) (hv2 : ∀ i, i < 32 → D 2 i = hd_v sa f i) (hc : ∀ j, j < 32 → D 5 j = hd_C j) (hsn : ∀ j, j < 32 → D 6 j = hd_S j) : Met l ySo_judgeBand wSo_judgeBand ({ frames := 2, cells := 0, slots := 0, locals := 52 }) (va_Pc [.ref (b 7), .int (nI at9), .int (nI lo), .int (nI hi9)] (ct_pre (dC, dI) (de_ty k) ev_N (wd k b P I D) sz)) (va_Qv (fun (u : Nat → Nat → UInt64) => u = ud (ud D 3 at9 (hd_bs sa f lo cn)) 4 at9 (hd_ln (hd_fl (hd_bs sa f lo cn)))) (fun u t => ct_at (dC, dI) (va_A (wd k b P I D) sz) ((fun u => wd k b P I u) u) t) (va_A (wd k b P I D) sz)) 0 0 (va_A (wd k b P I D) sz) := by
  refine Met.ofW (cc := cSo_judgeBand) (maxL := 7) (ret := none) (by decide) rfl ?_
  intro p e s m args below meth c s₁ B hml hv
  obtain ⟨rfl, hsz, hP, hK, hD0, hE⟩ := hv
  have hx := B.exec
  have hb := B.bytes
  have hr := B.returns
  have hts : ∀ w ∈ W0, w.before [.ref (b 7), .int (nI at9), .int (nI lo), .int (nI hi9)].toArray s = true := fun w h => atoms_spec (ws := wSo_judgeBand) B.pre w (List.mem_cons_of_mem _ h)
  have hown : s.vm.findClass RSo = some m.cls := findClass_of_methodNamed B.named
  have hlocks := B.notSynchronized
  subst hsz
  have hP0 := hP
  have hD := hD0.self (sz := s.heap.size)
  generalize hAe : va_A (wd k b P I D) s.heap.size = A at hD ⊢
  have hA : ∀ q : Nat, s.heap.size ≤ q → A q := fun q h => by rw [← hAe]; exact Or.inr h
  have hS : va_S A s.heap s.heap [] := va_S.rf
  have hl := lv_entry ([.ref (b 7), .int (nI at9), .int (nI lo), .int (nI hi9)]) (n := 7) (Nat.le_of_ble_eq_true rfl)
  rw [lg_entry_eq]
  generalize (lg_sl ([.ref (b 7), .int (nI at9), .int (nI lo), .int (nI hi9)]) ++ List.replicate (7 - (lg_sl ([.ref (b 7), .int (nI at9), .int (nI lo), .int (nI hi9)])).length) Slot.unset).toArray = ls at hl ⊢
  have hl : lv_has ls 7 [(0, .ref (b 7)), (1, .int (nI at9)), (2, .int (nI lo)), (3, .int (nI hi9))] := hl
  refine lp_q (fun Q9 hQ9 => ?_)
  refine lv_dconst0 hx hb dSo_judgeBand_0 ?_
  refine rw_d (y := 0) rfl ?_
  refine lv_dstore (lv' := [(4, .double 0), (0, .ref (b 7)), (1, .int (nI at9)), (2, .int (nI lo)), (3, .int (nI hi9))]) hx hb dSo_judgeBand_1 hl (by decide) rfl (fun ls hl => ?_)
  refine lv_iload_n hx hb dSo_judgeBand_3 rfl (lv_at hl 3 rfl) ?_
  refine lv_istore (lv' := [(6, .int (nI lo)), (4, .double 0), (0, .ref (b 7)), (1, .int (nI at9)), (2, .int (nI lo)), (3, .int (nI hi9))]) hx hb dSo_judgeBand_4 hl (by decide) rfl (fun ls hl => ?_)
  have L6 : ∀ (n6 : Nat) (mm : Nat), cn - mm < n6 → mm ≤ cn → ∀ (H : Heap) (locs : List Loc), va_P (dC, dI) vwCl (wd k b P I D) H → va_D A (wd k b P I D) → va_S A s.heap H locs → ∀ ls : Array Slot, lv_has ls 7 [(0, .ref (b 7)), (1, .int (nI at9)), (2, .int (nI lo)), (3, .int (nI hi9)), (4, .double (hd_bs sa f lo mm)), (6, .int (nI (lo + mm)))] → W p l e (headSpec wSo_judgeBand ({ frames := 2, cells := 0, slots := 0, locals := 52 })).room s m [.ref (b 7), .int (nI at9), .int (nI lo), .int (nI hi9)].toArray below meth c H locs 0 0 Q9 (F0 m 6 ls []) := by
    intro n6
    induction n6 with
    | zero => intro mm hm; exact absurd hm (Nat.not_lt_zero _)
    | succ n6 ih6 =>
      intro mm hm6 hmm H locs hP hD hS ls hl
      refine lv_iload hx hb dSo_judgeBand_6 (lv_at hl 5 rfl) ?_
      refine lv_iload_n hx hb dSo_judgeBand_8 rfl (lv_at hl 3 rfl) ?_
      refine lv_icmp_gt (tgt := 29) hx hb dSo_judgeBand_9 (by decide) (fun c9 => ?_) (fun c9 => ?_)
      · have c9 : hi9 < (lo + mm) := (nI_ltI (a := hi9) (b := (lo + mm)) (by omega) (by omega)).mp (show nI hi9 < nI (lo + mm) from c9)
        have em : mm = cn := by omega
        rw [em] at hl
        refine lv_aload_n hx hb dSo_judgeBand_29 rfl (lv_at hl 0 rfl) ?_
        refine va_get (D := (dC, dI)) (ci := 3) (v := .ref (b 10)) (C := RSo) (T := TSo) (N := 7) hx hb hts inSo hown hK hP 7 rfl rfl 3 (by decide) (hts _ tw_78) (fun _ h9 => h9) rfl dSo_judgeBand_30 ?_
        refine lv_iload_n hx hb dSo_judgeBand_33 rfl (lv_at hl 1 rfl) ?_
        refine lv_dload hx hb dSo_judgeBand_34 (lv_at hl 4 rfl) ?_
        refine rw_ast_d hx hb hK hP hD hS 10 1 rfl rfl (by omega) (by decide) dSo_judgeBand_36 (fun H locs hP hD hS => ?_)
        rw [wd_a10] at hP hD
        obtain ⟨D1, eD1⟩ : ∃ z, z = ud D 3 at9 (hd_bs sa f lo cn) := ⟨_, rfl⟩
        rw [← eD1] at hP hD
        refine lv_aload_n hx hb dSo_judgeBand_37 rfl (lv_at hl 0 rfl) ?_
        refine va_get (D := (dC, dI)) (ci := 3) (v := .ref (b 11)) (C := RSo) (T := TSo) (N := 7) hx hb hts inSo hown hK hP 7 rfl rfl 4 (by decide) (hts _ tw_79) (fun _ h9 => h9) rfl dSo_judgeBand_38 ?_
        refine lv_iload_n hx hb dSo_judgeBand_41 rfl (lv_at hl 1 rfl) ?_
        refine lv_dload hx hb dSo_judgeBand_42 (lv_at hl 4 rfl) ?_
        refine lv_ldc2d (v := 4457293557087583675) hx hb hown (hts _ tw_480) dSo_judgeBand_44 ?_
        refine rw_d (y := hd_ep) rfl ?_
        refine lv_dcmp hx hb dSo_judgeBand_47 ?_
        refine lv_if_le (tgt := 56) hx hb dSo_judgeBand_48 (by decide) (fun c48 => ?_) (fun c48 => ?_)
        · refine lv_ldc2d (v := 4457293557087583675) hx hb hown (hts _ tw_480) dSo_judgeBand_56 ?_
          refine rw_d (y := hd_ep) rfl ?_
          refine rw_d (y := hd_fl (hd_bs sa f lo cn)) ((if_neg ((fc_le_l _).mp c48)).symm) ?_
          have hin := hd_fl_in (fb_mono (hd_bs_b hs lo cn hcn) (by omega)) (hd_bs_p hs lo cn hcn)
          have hP : va_P (dC, dI) vwCl ([] ++ ([] ++ (wd k b P I D1))) _ := hP
          have hD : va_D A ([] ++ ([] ++ (wd k b P I D1))) := hD
          refine sg_d (va_runS (As := [.double (hd_fl (hd_bs sa f lo cn))]) (rest := [.int (nI at9), .ref (b 11)]) ⟨hx, hb, hml, hown, hts⟩ (kNu_logarithm l dC dI k b P I D _ (hd_fl (hd_bs sa f lo cn)) hin) (va_cwS 1 hts (gw_S tw_481 tw_482 tw_15 tw_483) rfl rfl rfl (by decide +kernel) ⟨Nat.le_of_ble_eq_true rfl, Nat.le_of_ble_eq_true rfl⟩) ⟨ct_blind (ev := fun _ => True) (fun _ _ _ _ h => h), ct_now (A := A) (ev := fun _ => True) (fun _ _ _ => trivial) (sg_Pc hP) hK (sg_Dc hD)⟩ rfl rfl hl.1 rfl (lv_room (Nat.le_of_ble_eq_true rfl)) dSo_judgeBand_59 ⟨Nat.le_of_ble_eq_true rfl, Nat.le_of_ble_eq_true rfl⟩) hP hD hS hA (fun r2 u2 H locs hw2 hP hD hS => ?_)
          have hP : va_P (dC, dI) vwCl (wd k b P I D1) H := hP
          have hD : va_D A (wd k b P I D1) := hD
          subst hw2
          refine rw_ast_d hx hb hK hP hD hS 11 1 rfl rfl (by omega) (by decide) dSo_judgeBand_62 (fun H locs hP hD hS => ?_)
          rw [wd_a11] at hP hD
          obtain ⟨D3, eD3⟩ : ∃ z, z = ud D1 4 at9 (hd_ln (hd_fl (hd_bs sa f lo cn))) := ⟨_, rfl⟩
          rw [← eD3] at hP hD
          rw [hQ9]
          exact ct_rv hx hb hr hlocks D3 (by rw [eD3, eD1]) hP hD hS (Nat.le_refl _) (Nat.le_refl _) dSo_judgeBand_63
        · refine lv_dload hx hb dSo_judgeBand_51 (lv_at hl 4 rfl) ?_
          refine lv_goto (tgt := 59) hx hb dSo_judgeBand_53 (by decide) ?_
          refine rw_d (y := hd_fl (hd_bs sa f lo cn)) ((if_pos ((fc_gt_l _).mp (Int32.not_le.mp c48))).symm) ?_
          have hin := hd_fl_in (fb_mono (hd_bs_b hs lo cn hcn) (by omega)) (hd_bs_p hs lo cn hcn)
          have hP : va_P (dC, dI) vwCl ([] ++ ([] ++ (wd k b P I D1))) _ := hP
          have hD : va_D A ([] ++ ([] ++ (wd k b P I D1))) := hD
          refine sg_d (va_runS (As := [.double (hd_fl (hd_bs sa f lo cn))]) (rest := [.int (nI at9), .ref (b 11)]) ⟨hx, hb, hml, hown, hts⟩ (kNu_logarithm l dC dI k b P I D _ (hd_fl (hd_bs sa f lo cn)) hin) (va_cwS 1 hts (gw_S tw_481 tw_482 tw_15 tw_483) rfl rfl rfl (by decide +kernel) ⟨Nat.le_of_ble_eq_true rfl, Nat.le_of_ble_eq_true rfl⟩) ⟨ct_blind (ev := fun _ => True) (fun _ _ _ _ h => h), ct_now (A := A) (ev := fun _ => True) (fun _ _ _ => trivial) (sg_Pc hP) hK (sg_Dc hD)⟩ rfl rfl hl.1 rfl (lv_room (Nat.le_of_ble_eq_true rfl)) dSo_judgeBand_59 ⟨Nat.le_of_ble_eq_true rfl, Nat.le_of_ble_eq_true rfl⟩) hP hD hS hA (fun r4 u4 H locs hw4 hP hD hS => ?_)
          have hP : va_P (dC, dI) vwCl (wd k b P I D1) H := hP
          have hD : va_D A (wd k b P I D1) := hD
          subst hw4
          refine rw_ast_d hx hb hK hP hD hS 11 1 rfl rfl (by omega) (by decide) dSo_judgeBand_62 (fun H locs hP hD hS => ?_)
          rw [wd_a11] at hP hD
          obtain ⟨D5, eD5⟩ : ∃ z, z = ud D1 4 at9 (hd_ln (hd_fl (hd_bs sa f lo cn))) := ⟨_, rfl⟩
          rw [← eD5] at hP hD
          rw [hQ9]
          exact ct_rv hx hb hr hlocks D5 (by rw [eD5, eD1]) hP hD hS (Nat.le_refl _) (Nat.le_refl _) dSo_judgeBand_63
      · have c9 : ¬ hi9 < (lo + mm) := fun q9 => c9 (show nI hi9 < nI (lo + mm) from (nI_ltI (a := hi9) (b := (lo + mm)) (by omega) (by omega)).mpr q9)
        refine lv_dload hx hb dSo_judgeBand_12 (lv_at hl 4 rfl) ?_
        refine lv_aload_n hx hb dSo_judgeBand_14 rfl (lv_at hl 0 rfl) ?_
        refine lv_iload hx hb dSo_judgeBand_15 (lv_at hl 5 rfl) ?_
        refine ct_d (va_runV (As := [.int (nI (lo + mm))]) (rest := [.double (hd_bs sa f lo mm)]) ⟨hx, hb, hml, hown, hts⟩ (kSo_strength l dC dI k b P I D _ f (lo + mm) sa (by omega) hs hv2 hc hsn) (cwV 1 hts (gw_V tw_479 tw_458 tw_459 tw_4 tw_460) rfl rfl rfl (by decide +kernel) ⟨Nat.le_of_ble_eq_true rfl, Nat.le_of_ble_eq_true rfl⟩) ⟨ct_blind (ev := ev_N) ev_N.blind, va_recv hK hP (ci := 3) (q0 := 7) rfl rfl, ct_now (ev := ev_N) (fun U _ hW => hE.warm hW) hP hK hD⟩ rfl rfl hl.1 rfl (lv_room (Nat.le_of_ble_eq_true rfl)) dSo_judgeBand_17 ⟨Nat.le_of_ble_eq_true rfl, Nat.le_of_ble_eq_true rfl⟩) hD hS hA (fun r6 u6 H locs hw6 hP hD hS => ?_)
        subst hw6
        refine lv_dadd hx hb dSo_judgeBand_20 (fb_n (hd_bs_b hs lo (mm + 1) (by omega)) (by omega)) ?_
        refine rw_d (y := hd_bs sa f lo (mm + 1)) rfl ?_
        refine lv_dstore (lv' := [(4, .double (hd_bs sa f lo (mm + 1))), (0, .ref (b 7)), (1, .int (nI at9)), (2, .int (nI lo)), (3, .int (nI hi9)), (6, .int (nI (lo + mm)))]) hx hb dSo_judgeBand_21 hl (by decide) rfl (fun ls hl => ?_)
        refine lv_iinc (v := nI ((lo + mm) + 1)) (lv' := [(6, .int (nI ((lo + mm) + 1))), (4, .double (hd_bs sa f lo (mm + 1))), (0, .ref (b 7)), (1, .int (nI at9)), (2, .int (nI lo)), (3, .int (nI hi9))]) hx hb dSo_judgeBand_23 hl (k := 5) rfl (nI_1 _) (by decide) rfl (fun ls hl => ?_)
        refine lv_goto (tgt := 6) hx hb dSo_judgeBand_26 (by decide) ?_
        exact ih6 (mm + 1) (by omega) (by omega) _ _ hP hD hS ls (lv_sub hl [2, 3, 4, 5, 1, 0] rfl)
  exact L6 _ 0 (Nat.lt_succ_self _) (by omega) _ _ hP hD hS ls (lv_sub hl [2, 3, 4, 5, 1, 0] rfl)
