set_option maxHeartbeats 4000000 in
set_option maxRecDepth 100000 in
theorem kMo_hear (l : Launch) (dC : Nat → ClassId) (dI : Nat → Nat → Nat) (k : Nat → ClassId) (b : Nat → Nat) (I : Nat → Nat → Int32) (D : Nat → Nat → UInt64) (sz : Nat) (ns : Nat) (hn : ns ≤ 320) (h3 : I 0 3 = nI ns) (hsm : ∀ i, i < ns → fb_ 1057 (D 1 i)) (hc : ∀ j, j < 32 → D 7 j = hd_C j) (hsn : ∀ j, j < 32 → D 8 j = hd_S j) (np : Nat) (rw9 : Nat → Nat) (hnp : np ≤ 6) (h5 : I 0 5 = nI np) (hr9 : ∀ j, j < np → I 3 j = nI (rw9 j) ∧ 1 ≤ rw9 j ∧ rw9 j ≤ 8) (hl9 : ∀ j, j < np → ∀ q, q < 4 * rw9 j → fb_ 1155 (D 2 (32 * j + q))) (gp : Nat) (hg1 : 1 ≤ gp) (hg4 : gp ≤ 4) (h7 : I 0 7 = nI gp) : Met l yMo_hear wMo_hear ({ frames := 4, cells := 0, slots := 0, locals := 106 }) (va_Pc [.ref (b 0)] (ct_pre (dC, dI) (mo_ty k) (fun _ => True) (wm k b I D) sz)) (va_Qi (fun r (u : (Nat → Nat → Int32) × (Nat → Nat → UInt64)) => (hd_nf ns = 0 ∧ u = (ui (ui I 0 0 (nI 0)) 0 0 (nI 1), D)) ∨ (0 < hd_nf ns ∧ ∃ L, L = hs_w (D 1) (D 0 0) (hd_nf ns) gp 20 0 ∧ L.length ≤ 19 ∧ r = nI L.length ∧ u.1 0 0 = nI 0 ∧ u.1 0 6 = nI L.length ∧ (∀ z, z ≠ 0 → z ≠ 6 → z ≠ 8 → z ≠ 9 → u.1 0 z = I 0 z) ∧ (∀ c, c ≠ 0 → c < 4 → u.1 c = I c) ∧ (∀ c, c ≠ 3 → c ≠ 4 → c ≠ 5 → c ≠ 6 → u.2 c = D c) ∧ ∀ k9 f9 m9, L[k9]? = some (f9, m9) → u.1 5 k9 = nI f9 ∧ u.1 6 k9 = nI m9 ∧ u.1 7 k9 = hr_n (fun k8 => hw_wa (hw_lv (D 1) f9) (fun q => D 2 (32 * k8 + q)) m9 (rw9 k8)) np ∧ u.1 4 k9 = hr_l (fun k8 => hw_wa (hw_lv (D 1) f9) (fun q => D 2 (32 * k8 + q)) m9 (rw9 k8)) (I 2) (D 0 1) np ∧ u.2 3 k9 = (hr_p (fun k8 => hw_wa (hw_lv (D 1) f9) (fun q => D 2 (32 * k8 + q)) m9 (rw9 k8)) np).2)) (fun u t => ct_at (dC, dI) (va_A (wm k b I D) sz) ((fun u => wm k b u.1 u.2) u) t) (va_A (wm k b I D) sz)) 0 0 (va_A (wm k b I D) sz) := by
  refine Met.ofW (cc := cMo_hear) (maxL := 7) (ret := (some .int)) (by decide) rfl ?_
  intro p e s m args below meth c s₁ B hml hv
  obtain ⟨rfl, hsz, hP, hK, hD0, hE⟩ := hv
  have hx := B.exec
  have hb := B.bytes
  have hr := B.returns
  have hts : ∀ w ∈ W0, w.before [.ref (b 0)].toArray s = true := fun w h => atoms_spec (ws := wMo_hear) B.pre w (List.mem_cons_of_mem _ h)
  have hown : s.vm.findClass RMo = some m.cls := findClass_of_methodNamed B.named
  have hlocks := B.notSynchronized
  subst hsz
  have hD := hD0.self (sz := s.heap.size)
  generalize hAe : va_A (wm k b I D) s.heap.size = A at hD ⊢
  have hA : ∀ q : Nat, s.heap.size ≤ q → A q := fun q h => by rw [← hAe]; exact Or.inr h
  have hS : va_S A s.heap s.heap [] := va_S.rf
  have hl := lv_entry ([.ref (b 0)]) (n := 7) (Nat.le_of_ble_eq_true rfl)
  rw [lg_entry_eq]
  generalize (lg_sl ([.ref (b 0)]) ++ List.replicate (7 - (lg_sl ([.ref (b 0)])).length) Slot.unset).toArray = ls at hl ⊢
  have hl : lv_has ls 7 [(0, .ref (b 0))] := hl
  refine lp_q (fun Q9 hQ9 => ?_)
  refine lv_aload_n hx hb dMo_hear_0 rfl (lv_at hl 0 rfl) ?_
  refine lv_iconst (v := nI 0) hx hb dMo_hear_1 (by decide +kernel) ?_
  refine va_put (D := (dC, dI)) (ci := 8) (fs := mo_f b I D) (v := .int (nI 0)) (ty := .int) (C := RMo) (T := TMo) (N := 27) hx hb hts inMo tyMo tyMo_ok nmMo hown hK hP hD hS 0 rfl rfl 0 (by decide) (hts _ tw_647) (fun _ h9 => h9) rfl (by decide +kernel) rfl rfl (Nat.le_of_ble_eq_true rfl) dMo_hear_2 (fun H locs hP hD hS => ?_)
  rw [wm_p0] at hP hD
  obtain ⟨I1, eI1⟩ : ∃ z, z = ui I 0 0 (nI 0) := ⟨_, rfl⟩
  rw [← eI1] at hP hD
  refine lv_aload_n hx hb dMo_hear_5 rfl (lv_at hl 0 rfl) ?_
  refine ct_i (va_runV (As := []) (rest := []) ⟨hx, hb, hml, hown, hts⟩ (kMo_frames l dC dI k b I1 D _ ns hn (by rw [eI1, ui_n _ _ _ (by decide)]; exact h3)) (cwV 0 hts (gw_V tw_790 tw_792 sl_Mo_frames tw_9 tw_793) rfl rfl rfl (by decide +kernel) ⟨Nat.le_of_ble_eq_true rfl, Nat.le_of_ble_eq_true rfl⟩) ⟨ct_blind (ev := fun _ => True) (fun _ _ _ _ h => h), va_recv hK hP (ci := 8) (q0 := 0) rfl rfl, ct_now (ev := fun _ => True) (fun _ _ _ => trivial) hP hK hD⟩ rfl rfl hl.1 rfl (lv_room (Nat.le_of_ble_eq_true rfl)) dMo_hear_6 ⟨Nat.le_of_ble_eq_true rfl, Nat.le_of_ble_eq_true rfl⟩) hD hS hA (fun r2 u2 H locs hw2 hP hD hS => ?_)
  subst hw2
  have hnf := nf_le hn
  have hnf := nf_le hn
  refine lv_istore_n (lv' := [(1, .int (nI (hd_nf ns))), (0, .ref (b 0))]) hx hb dMo_hear_9 rfl hl (by decide) rfl (fun ls hl => ?_)
  refine lv_iconst (v := nI 0) hx hb dMo_hear_10 (by decide +kernel) ?_
  refine lv_istore_n (lv' := [(2, .int (nI 0)), (1, .int (nI (hd_nf ns))), (0, .ref (b 0))]) hx hb dMo_hear_11 rfl hl (by decide) rfl (fun ls hl => ?_)
  refine lv_aload_n hx hb dMo_hear_12 rfl (lv_at hl 2 rfl) ?_
  refine lv_iload_n hx hb dMo_hear_13 rfl (lv_at hl 1 rfl) ?_
  refine lv_if_ne (tgt := 21) hx hb dMo_hear_14 (by decide) (fun c14 => ?_) (fun c14 => ?_)
  · have c14 : ¬ (hd_nf ns) = 0 := fun q9 => c14 (show nI (hd_nf ns) = nI 0 from (nI_eq (a := (hd_nf ns)) (b := 0) (by omega) (by omega)).mpr q9)
    refine lv_iconst (v := nI 0) hx hb dMo_hear_21 (by decide +kernel) ?_
    refine lv_iconst (v := nI 1) hx hb dMo_hear_22 (by decide +kernel) ?_
    refine ct_i (va_runV (As := [.int (nI 0), .int (nI 1)]) (rest := []) ⟨hx, hb, hml, hown, hts⟩ (kMo_fails0 l dC dI k b I1 D _ (nI 1) (by rw [eI1, ui_s])) (cwV 2 hts (gw_V tw_737 tw_739 sl_Mo_fails tw_9 tw_740) rfl rfl rfl (by decide +kernel) ⟨Nat.le_of_ble_eq_true rfl, Nat.le_of_ble_eq_true rfl⟩) ⟨ct_blind (ev := fun _ => True) (fun _ _ _ _ h => h), va_recv hK hP (ci := 8) (q0 := 0) rfl rfl, ct_now (ev := fun _ => True) (fun _ _ _ => trivial) hP hK hD⟩ rfl rfl hl.1 rfl (lv_room (Nat.le_of_ble_eq_true rfl)) dMo_hear_23 ⟨Nat.le_of_ble_eq_true rfl, Nat.le_of_ble_eq_true rfl⟩) hD hS hA (fun r3 u3 H locs hw3 hP hD hS => ?_)
    subst hw3
    refine lv_if_eq (tgt := 31) hx hb dMo_hear_26 (by decide) (fun c26 => ?_) (fun c26 => ?_)
    · have c26 : 0 = 0 := (nI_eq (a := 0) (b := 0) (by omega) (by omega)).mp (show nI 0 = nI 0 from c26)
      refine lv_aload_n hx hb dMo_hear_31 rfl (lv_at hl 2 rfl) ?_
      refine lv_iconst (v := nI 0) hx hb dMo_hear_32 (by decide +kernel) ?_
      refine va_put (D := (dC, dI)) (ci := 8) (fs := mo_f b I1 D) (v := .int (nI 0)) (ty := .int) (C := RMo) (T := TMo) (N := 27) hx hb hts inMo tyMo tyMo_ok nmMo hown hK hP hD hS 0 rfl rfl 6 (by decide) (hts _ tw_653) (fun _ h9 => h9) rfl (by decide +kernel) rfl rfl (Nat.le_of_ble_eq_true rfl) dMo_hear_33 (fun H locs hP hD hS => ?_)
      rw [wm_p6] at hP hD
      obtain ⟨I4, eI4⟩ : ∃ z, z = ui I1 0 6 (nI 0) := ⟨_, rfl⟩
      rw [← eI4] at hP hD
      have L36 : ∀ (n36 : Nat) (f : Nat) (L : List (Nat × Nat)) (J : Nat → Nat → Int32) (E : Nat → Nat → UInt64) (fu : Nat), hd_nf ns - f < n36 → L ++ hs_w (D 1) (D 0 0) (hd_nf ns) gp fu f = hs_w (D 1) (D 0 0) (hd_nf ns) gp 20 0 → hd_nf ns ≤ f + fu → f ≤ hd_nf ns → L.length ≤ f → (∀ z, z ≠ 6 → z ≠ 8 → z ≠ 9 → J 0 z = I1 0 z) → J 0 6 = nI L.length → (∀ c, c ≠ 0 → c < 4 → J c = I c) → (∀ c, c ≠ 3 → c ≠ 4 → c ≠ 5 → c ≠ 6 → E c = D c) → (∀ k9 f9 m9, L[k9]? = some (f9, m9) → J 5 k9 = nI f9 ∧ J 6 k9 = nI m9 ∧ J 7 k9 = hr_n (fun k8 => hw_wa (hw_lv (D 1) f9) (fun q => D 2 (32 * k8 + q)) m9 (rw9 k8)) np ∧ J 4 k9 = hr_l (fun k8 => hw_wa (hw_lv (D 1) f9) (fun q => D 2 (32 * k8 + q)) m9 (rw9 k8)) (I 2) (D 0 1) np ∧ E 3 k9 = (hr_p (fun k8 => hw_wa (hw_lv (D 1) f9) (fun q => D 2 (32 * k8 + q)) m9 (rw9 k8)) np).2) → ∀ (H : Heap) (locs : List Loc), va_P (dC, dI) vwCl (wm k b J E) H → va_D A (wm k b J E) → va_S A s.heap H locs → ∀ ls : Array Slot, lv_has ls 7 [(0, .ref (b 0)), (1, .int (nI (hd_nf ns))), (2, .int (nI f))] → W p l e (headSpec wMo_hear ({ frames := 4, cells := 0, slots := 0, locals := 106 })).room s m [.ref (b 0)].toArray below meth c H locs 0 0 Q9 (F0 m 36 ls []) := by
        intro n36
        induction n36 with
        | zero => intro f L J E fu hm; exact absurd hm (Nat.not_lt_zero _)
        | succ n36 ih36 =>
          intro f L J E fu hm36 hL hfu hf hlen hJ0 hJ6 hJ hE9 hWo H locs hP hD hS ls hl
          refine lv_iload_n hx hb dMo_hear_36 rfl (lv_at hl 2 rfl) ?_
          refine lv_iload_n hx hb dMo_hear_37 rfl (lv_at hl 1 rfl) ?_
          refine lv_icmp_ge (tgt := 136) hx hb dMo_hear_38 (by decide) (fun c38 => ?_) (fun c38 => ?_)
          · have c38 : (hd_nf ns) ≤ f := (nI_leI (a := (hd_nf ns)) (b := f) (by omega) (by omega)).mp (show nI (hd_nf ns) ≤ nI f from c38)
            refine lv_aload_n hx hb dMo_hear_136 rfl (lv_at hl 0 rfl) ?_
            refine va_get (D := (dC, dI)) (ci := 8) (v := .int (J 0 6)) (C := RMo) (T := TMo) (N := 27) hx hb hts inMo hown hK hP 0 rfl rfl 6 (by decide) (hts _ tw_653) (fun _ h9 => h9) rfl dMo_hear_137 ?_
            refine rw_i (y := nI L.length) hJ6 ?_
            rw [hs_w_e fu (by omega), List.append_nil] at hL
            have o1 : J 0 0 = nI 0 := by rw [hJ0 0 (by decide) (by decide) (by decide), eI1, ui_s]
            have o2 : ∀ z, z ≠ 0 → z ≠ 6 → z ≠ 8 → z ≠ 9 → J 0 z = I 0 z := fun z z0 z6 z8 z9 => by rw [hJ0 z z6 z8 z9, eI1, ui_n _ _ _ z0]
            rw [hQ9]
            exact ct_ri hx hb hr hlocks (J, E) (Or.inr ⟨by omega, L, hL, by omega, rfl, o1, hJ6, o2, hJ, hE9, hWo⟩) hP hD hS (Nat.le_refl _) (Nat.le_refl _) dMo_hear_140
          · have c38 : ¬ (hd_nf ns) ≤ f := fun q9 => c38 (show nI (hd_nf ns) ≤ nI f from (nI_leI (a := (hd_nf ns)) (b := f) (by omega) (by omega)).mpr q9)
            have c38b : f < hd_nf ns := by omega
            obtain ⟨fv, rfl⟩ : ∃ fv, fu = fv + 1 := ⟨fu - 1, by omega⟩
            refine lv_aload_n hx hb dMo_hear_41 rfl (lv_at hl 0 rfl) ?_
            refine lv_iload_n hx hb dMo_hear_42 rfl (lv_at hl 2 rfl) ?_
            have hfi := nf_lt (n := ns) (j := f) (by omega)
            refine ct_i (va_runV (As := [.int (nI f)]) (rest := []) ⟨hx, hb, hml, hown, hts⟩ (kMo_isLoud l dC dI k b J E _ f (by omega) (fun i hi => by rw [hE9 _ (by decide) (by decide) (by decide) (by decide)]; exact hsm _ (by omega)) (fun i hi => by rw [hE9 _ (by decide) (by decide) (by decide) (by decide)]; exact hc i hi) (fun i hi => by rw [hE9 _ (by decide) (by decide) (by decide) (by decide)]; exact hsn i hi)) (cwV 1 hts (gw_V tw_850 tw_852 sl_Mo_isLoud tw_9 tw_853) rfl rfl rfl (by decide +kernel) ⟨Nat.le_of_ble_eq_true rfl, Nat.le_of_ble_eq_true rfl⟩) ⟨ct_blind (ev := fun _ => True) (fun _ _ _ _ h => h), va_recv hK hP (ci := 8) (q0 := 0) rfl rfl, ct_now (ev := fun _ => True) (fun _ _ _ => trivial) hP hK hD⟩ rfl rfl hl.1 rfl (lv_room (Nat.le_of_ble_eq_true rfl)) dMo_hear_43 ⟨Nat.le_of_ble_eq_true rfl, Nat.le_of_ble_eq_true rfl⟩) hD hS hA (fun r5 u5 H locs hw5 hP hD hS => ?_)
            by_cases g43 : hd_ld (E 1) f (E 0 0)
            · rw [if_pos g43] at hw5
              subst hw5
              refine rw_i (y := nI 1) rfl ?_
              rw [hE9 1 (by decide) (by decide) (by decide) (by decide), hE9 0 (by decide) (by decide) (by decide) (by decide)] at g43
              refine lv_if_ne (tgt := 55) hx hb dMo_hear_46 (by decide) (fun c46 => ?_) (fun c46 => ?_)
              · have c46 : ¬ 1 = 0 := fun q9 => c46 (show nI 1 = nI 0 from (nI_eq (a := 1) (b := 0) (by omega) (by omega)).mpr q9)
                refine lv_iload_n hx hb dMo_hear_55 rfl (lv_at hl 2 rfl) ?_
                refine lv_istore_n (lv' := [(3, .int (nI f)), (0, .ref (b 0)), (1, .int (nI (hd_nf ns))), (2, .int (nI f))]) hx hb dMo_hear_56 rfl hl (by decide) rfl (fun ls hl => ?_)
                refine lv_iconst (v := nI 0) hx hb dMo_hear_57 (by decide +kernel) ?_
                refine lv_istore (lv' := [(4, .int (nI 0)), (3, .int (nI f)), (0, .ref (b 0)), (1, .int (nI (hd_nf ns))), (2, .int (nI f))]) hx hb dMo_hear_58 hl (by decide) rfl (fun ls hl => ?_)
                refine lv_iconst (v := nI 1) hx hb dMo_hear_60 (by decide +kernel) ?_
                refine lv_istore (lv' := [(5, .int (nI 1)), (4, .int (nI 0)), (3, .int (nI f)), (0, .ref (b 0)), (1, .int (nI (hd_nf ns))), (2, .int (nI f))]) hx hb dMo_hear_61 hl (by decide) rfl (fun ls hl => ?_)
                refine lv_iload_n hx hb dMo_hear_63 rfl (lv_at hl 5 rfl) ?_
                refine lv_iconst (v := nI 1) hx hb dMo_hear_64 (by decide +kernel) ?_
                refine lv_iadd hx hb dMo_hear_65 ?_
                refine rw_i (y := nI (f + 1)) (nI_add _ _) ?_
                refine lv_istore (lv' := [(6, .int (nI (f + 1))), (5, .int (nI 1)), (4, .int (nI 0)), (3, .int (nI f)), (0, .ref (b 0)), (1, .int (nI (hd_nf ns))), (2, .int (nI f))]) hx hb dMo_hear_66 hl (by decide) rfl (fun ls hl => ?_)
                have L68 : ∀ (n68 : Nat) (g : Nat) (la : Nat) (q : Nat) (lk : Nat) (fw : Nat), hd_nf ns - g < n68 → hs_in (D 1) (D 0 0) (hd_nf ns) gp fw g la q lk = hs_in (D 1) (D 0 0) (hd_nf ns) gp 10 (f + 1) f 0 1 → 10 ≤ lk + fw → g = f + lk → g ≤ hd_nf ns → f ≤ la → la < g → 1 ≤ lk ∧ lk ≤ 10 ∧ q ≤ 4 → ∀ (H : Heap) (locs : List Loc), va_P (dC, dI) vwCl (wm k b J E) H → va_D A (wm k b J E) → va_S A s.heap H locs → ∀ ls : Array Slot, lv_has ls 7 [(0, .ref (b 0)), (1, .int (nI (hd_nf ns))), (2, .int (nI f)), (3, .int (nI la)), (4, .int (nI q)), (5, .int (nI lk)), (6, .int (nI g))] → W p l e (headSpec wMo_hear ({ frames := 4, cells := 0, slots := 0, locals := 106 })).room s m [.ref (b 0)].toArray below meth c H locs 0 0 Q9 (F0 m 68 ls []) := by
                  intro n68
                  induction n68 with
                  | zero => intro g la q lk fw hm; exact absurd hm (Nat.not_lt_zero _)
                  | succ n68 ih68 =>
                    intro g la q lk fw hm68 hin h10 hg hgn hla hla2 hlk H locs hP hD hS ls hl
                    refine lv_iload hx hb dMo_hear_68 (lv_at hl 6 rfl) ?_
                    refine lv_iload_n hx hb dMo_hear_70 rfl (lv_at hl 1 rfl) ?_
                    refine lv_icmp_ge (tgt := 120) hx hb dMo_hear_71 (by decide) (fun c71 => ?_) (fun c71 => ?_)
                    · have c71 : (hd_nf ns) ≤ g := (nI_leI (a := (hd_nf ns)) (b := g) (by omega) (by omega)).mp (show nI (hd_nf ns) ≤ nI g from c71)
                      rw [hs_in_e fw (by omega)] at hin
                      refine lv_aload_n hx hb dMo_hear_120 rfl (lv_at hl 0 rfl) ?_
                      refine lv_iload_n hx hb dMo_hear_121 rfl (lv_at hl 2 rfl) ?_
                      refine lv_iload_n hx hb dMo_hear_122 rfl (lv_at hl 3 rfl) ?_
                      refine lv_iload_n hx hb dMo_hear_123 rfl (lv_at hl 2 rfl) ?_
                      refine lv_isub hx hb dMo_hear_124 ?_
                      refine rw_i (y := nI (la - f)) (pk_sub (by omega)) ?_
                      refine lv_iconst (v := nI 1) hx hb dMo_hear_125 (by decide +kernel) ?_
                      refine lv_iadd hx hb dMo_hear_126 ?_
                      refine rw_i (y := nI ((la - f) + 1)) (nI_add _ _) ?_
                      obtain ⟨m8, em8⟩ : ∃ m8, m8 = la - f + 1 := ⟨_, rfl⟩
                      refine ct_v (va_runV (As := [.int (nI f), .int (nI ((la - f) + 1))]) (rest := []) ⟨hx, hb, hml, hown, hts⟩ (kMo_writes l dC dI k b J E _ f (la - f + 1) L.length ns hn (by rw [hJ0 3 (by decide) (by decide) (by decide), eI1, ui_n _ _ _ (by decide)]; exact h3) (fun i hi => by rw [hE9 _ (by decide) (by decide) (by decide) (by decide)]; exact hsm i hi) (fun i hi => by rw [hE9 _ (by decide) (by decide) (by decide) (by decide)]; exact hc i hi) (fun i hi => by rw [hE9 _ (by decide) (by decide) (by decide) (by decide)]; exact hsn i hi) np rw9 hnp (by rw [hJ0 5 (by decide) (by decide) (by decide), eI1, ui_n _ _ _ (by decide)]; exact h5) (fun j hj => by rw [hJ 3 (by decide) (by decide)]; exact hr9 j hj) (fun j hj q hq => by rw [hE9 _ (by decide) (by decide) (by decide) (by decide)]; exact hl9 j hj q hq) hJ6 (by omega) (by omega) (by omega) (by omega)) (cwV 2 hts (gw_V tw_854 tw_856 sl_Mo_writes tw_9 tw_857) rfl rfl rfl (by decide +kernel) ⟨Nat.le_of_ble_eq_true rfl, Nat.le_of_ble_eq_true rfl⟩) ⟨ct_blind (ev := fun _ => True) (fun _ _ _ _ h => h), va_recv hK hP (ci := 8) (q0 := 0) rfl rfl, ct_now (ev := fun _ => True) (fun _ _ _ => trivial) hP hK hD⟩ rfl rfl hl.1 rfl (lv_room (Nat.le_of_ble_eq_true rfl)) dMo_hear_127 ⟨Nat.le_of_ble_eq_true rfl, Nat.le_of_ble_eq_true rfl⟩) hD hS hA (fun u6 H locs hw6 hP hD hS => ?_)
                      rw [hE9 1 (by decide) (by decide) (by decide) (by decide), hE9 2 (by decide) (by decide) (by decide) (by decide), hE9 0 (by decide) (by decide) (by decide) (by decide), hJ 2 (by decide) (by decide)] at hw6
                      obtain ⟨w1, w2, w3, w4, w5, w6, w7, w8, w9, w10, w11⟩ := hw6
                      refine lv_iload hx hb dMo_hear_130 (lv_at hl 6 rfl) ?_
                      refine lv_istore_n (lv' := [(2, .int (nI g)), (0, .ref (b 0)), (1, .int (nI (hd_nf ns))), (3, .int (nI la)), (4, .int (nI q)), (5, .int (nI lk)), (6, .int (nI g))]) hx hb dMo_hear_132 rfl hl (by decide) rfl (fun ls hl => ?_)
                      refine lv_goto (tgt := 36) hx hb dMo_hear_133 (by decide) ?_
                      have n1 : (L ++ [(f, la - f + 1)]) ++ hs_w (D 1) (D 0 0) (hd_nf ns) gp fv g = hs_w (D 1) (D 0 0) (hd_nf ns) gp 20 0 := by rw [← hL, hs_w_l c38b g43, ← hin, List.append_assoc]; rfl
                      have n2 : (L ++ [(f, la - f + 1)]).length = L.length + 1 := List.length_append
                      have n3 : ∀ z, z ≠ 6 → z ≠ 8 → z ≠ 9 → u6.1 0 z = I1 0 z := fun z z6 z8 z9 => (w1 z z6 z8 z9).trans (hJ0 z z6 z8 z9)
                      have n4 : ∀ c, c ≠ 0 → c < 4 → u6.1 c = I c := fun c z0 z4 => (w3 c z0 z4).trans (hJ c z0 z4)
                      have n5 : ∀ c, c ≠ 3 → c ≠ 4 → c ≠ 5 → c ≠ 6 → u6.2 c = D c := fun c z3 z4 z5 z6 => (w9 c z3 z4 z5 z6).trans (hE9 c z3 z4 z5 z6)
                      have n6 : ∀ k9 f9 m9, (L ++ [(f, la - f + 1)])[k9]? = some (f9, m9) → u6.1 5 k9 = nI f9 ∧ u6.1 6 k9 = nI m9 ∧ u6.1 7 k9 = hr_n (fun k8 => hw_wa (hw_lv (D 1) f9) (fun q => D 2 (32 * k8 + q)) m9 (rw9 k8)) np ∧ u6.1 4 k9 = hr_l (fun k8 => hw_wa (hw_lv (D 1) f9) (fun q => D 2 (32 * k8 + q)) m9 (rw9 k8)) (I 2) (D 0 1) np ∧ u6.2 3 k9 = (hr_p (fun k8 => hw_wa (hw_lv (D 1) f9) (fun q => D 2 (32 * k8 + q)) m9 (rw9 k8)) np).2 := fun k9 f9 m9 h => by
                        rcases la_app h with ⟨h1, h2⟩ | ⟨h1, h2⟩
                        · obtain ⟨o1, o2, o3, o4, o5⟩ := hWo k9 f9 m9 h2
                          have zn : k9 ≠ L.length := by omega
                          exact ⟨(w4 5 (by decide) k9 zn).trans o1, (w4 6 (by decide) k9 zn).trans o2, (w4 7 (by decide) k9 zn).trans o3, (w4 4 (by decide) k9 zn).trans o4, (w10 k9 zn).trans o5⟩
                        · cases h2; subst h1; exact ⟨w5, w6, w7, w8, w11⟩
                      exact ih36 g (L ++ [(f, la - f + 1)]) u6.1 u6.2 fv (by omega) n1 (by omega) (by omega) (by omega) n3 (by rw [n2]; exact w2) n4 n5 n6 _ _ hP hD hS ls (lv_sub hl [1, 2, 0] rfl)
                    · have c71 : ¬ (hd_nf ns) ≤ g := fun q9 => c71 (show nI (hd_nf ns) ≤ nI g from (nI_leI (a := (hd_nf ns)) (b := g) (by omega) (by omega)).mpr q9)
                      refine lv_iload hx hb dMo_hear_74 (lv_at hl 5 rfl) ?_
                      refine lv_bipush (v := nI 10) hx hb dMo_hear_76 (by decide +kernel) ?_
                      refine lv_icmp_ge (tgt := 120) hx hb dMo_hear_78 (by decide) (fun c78 => ?_) (fun c78 => ?_)
                      · have c78 : 10 ≤ lk := (nI_leI (a := 10) (b := lk) (by omega) (by omega)).mp (show nI 10 ≤ nI lk from c78)
                        rw [hs_in_e fw (by omega)] at hin
                        refine lv_aload_n hx hb dMo_hear_120 rfl (lv_at hl 0 rfl) ?_
                        refine lv_iload_n hx hb dMo_hear_121 rfl (lv_at hl 2 rfl) ?_
                        refine lv_iload_n hx hb dMo_hear_122 rfl (lv_at hl 3 rfl) ?_
                        refine lv_iload_n hx hb dMo_hear_123 rfl (lv_at hl 2 rfl) ?_
                        refine lv_isub hx hb dMo_hear_124 ?_
                        refine rw_i (y := nI (la - f)) (pk_sub (by omega)) ?_
                        refine lv_iconst (v := nI 1) hx hb dMo_hear_125 (by decide +kernel) ?_
                        refine lv_iadd hx hb dMo_hear_126 ?_
                        refine rw_i (y := nI ((la - f) + 1)) (nI_add _ _) ?_
                        obtain ⟨m8, em8⟩ : ∃ m8, m8 = la - f + 1 := ⟨_, rfl⟩
                        refine ct_v (va_runV (As := [.int (nI f), .int (nI ((la - f) + 1))]) (rest := []) ⟨hx, hb, hml, hown, hts⟩ (kMo_writes l dC dI k b J E _ f (la - f + 1) L.length ns hn (by rw [hJ0 3 (by decide) (by decide) (by decide), eI1, ui_n _ _ _ (by decide)]; exact h3) (fun i hi => by rw [hE9 _ (by decide) (by decide) (by decide) (by decide)]; exact hsm i hi) (fun i hi => by rw [hE9 _ (by decide) (by decide) (by decide) (by decide)]; exact hc i hi) (fun i hi => by rw [hE9 _ (by decide) (by decide) (by decide) (by decide)]; exact hsn i hi) np rw9 hnp (by rw [hJ0 5 (by decide) (by decide) (by decide), eI1, ui_n _ _ _ (by decide)]; exact h5) (fun j hj => by rw [hJ 3 (by decide) (by decide)]; exact hr9 j hj) (fun j hj q hq => by rw [hE9 _ (by decide) (by decide) (by decide) (by decide)]; exact hl9 j hj q hq) hJ6 (by omega) (by omega) (by omega) (by omega)) (cwV 2 hts (gw_V tw_854 tw_856 sl_Mo_writes tw_9 tw_857) rfl rfl rfl (by decide +kernel) ⟨Nat.le_of_ble_eq_true rfl, Nat.le_of_ble_eq_true rfl⟩) ⟨ct_blind (ev := fun _ => True) (fun _ _ _ _ h => h), va_recv hK hP (ci := 8) (q0 := 0) rfl rfl, ct_now (ev := fun _ => True) (fun _ _ _ => trivial) hP hK hD⟩ rfl rfl hl.1 rfl (lv_room (Nat.le_of_ble_eq_true rfl)) dMo_hear_127 ⟨Nat.le_of_ble_eq_true rfl, Nat.le_of_ble_eq_true rfl⟩) hD hS hA (fun u7 H locs hw7 hP hD hS => ?_)
                        rw [hE9 1 (by decide) (by decide) (by decide) (by decide), hE9 2 (by decide) (by decide) (by decide) (by decide), hE9 0 (by decide) (by decide) (by decide) (by decide), hJ 2 (by decide) (by decide)] at hw7
                        obtain ⟨w1, w2, w3, w4, w5, w6, w7, w8, w9, w10, w11⟩ := hw7
                        refine lv_iload hx hb dMo_hear_130 (lv_at hl 6 rfl) ?_
                        refine lv_istore_n (lv' := [(2, .int (nI g)), (0, .ref (b 0)), (1, .int (nI (hd_nf ns))), (3, .int (nI la)), (4, .int (nI q)), (5, .int (nI lk)), (6, .int (nI g))]) hx hb dMo_hear_132 rfl hl (by decide) rfl (fun ls hl => ?_)
                        refine lv_goto (tgt := 36) hx hb dMo_hear_133 (by decide) ?_
                        have n1 : (L ++ [(f, la - f + 1)]) ++ hs_w (D 1) (D 0 0) (hd_nf ns) gp fv g = hs_w (D 1) (D 0 0) (hd_nf ns) gp 20 0 := by rw [← hL, hs_w_l c38b g43, ← hin, List.append_assoc]; rfl
                        have n2 : (L ++ [(f, la - f + 1)]).length = L.length + 1 := List.length_append
                        have n3 : ∀ z, z ≠ 6 → z ≠ 8 → z ≠ 9 → u7.1 0 z = I1 0 z := fun z z6 z8 z9 => (w1 z z6 z8 z9).trans (hJ0 z z6 z8 z9)
                        have n4 : ∀ c, c ≠ 0 → c < 4 → u7.1 c = I c := fun c z0 z4 => (w3 c z0 z4).trans (hJ c z0 z4)
                        have n5 : ∀ c, c ≠ 3 → c ≠ 4 → c ≠ 5 → c ≠ 6 → u7.2 c = D c := fun c z3 z4 z5 z6 => (w9 c z3 z4 z5 z6).trans (hE9 c z3 z4 z5 z6)
                        have n6 : ∀ k9 f9 m9, (L ++ [(f, la - f + 1)])[k9]? = some (f9, m9) → u7.1 5 k9 = nI f9 ∧ u7.1 6 k9 = nI m9 ∧ u7.1 7 k9 = hr_n (fun k8 => hw_wa (hw_lv (D 1) f9) (fun q => D 2 (32 * k8 + q)) m9 (rw9 k8)) np ∧ u7.1 4 k9 = hr_l (fun k8 => hw_wa (hw_lv (D 1) f9) (fun q => D 2 (32 * k8 + q)) m9 (rw9 k8)) (I 2) (D 0 1) np ∧ u7.2 3 k9 = (hr_p (fun k8 => hw_wa (hw_lv (D 1) f9) (fun q => D 2 (32 * k8 + q)) m9 (rw9 k8)) np).2 := fun k9 f9 m9 h => by
                          rcases la_app h with ⟨h1, h2⟩ | ⟨h1, h2⟩
                          · obtain ⟨o1, o2, o3, o4, o5⟩ := hWo k9 f9 m9 h2
                            have zn : k9 ≠ L.length := by omega
                            exact ⟨(w4 5 (by decide) k9 zn).trans o1, (w4 6 (by decide) k9 zn).trans o2, (w4 7 (by decide) k9 zn).trans o3, (w4 4 (by decide) k9 zn).trans o4, (w10 k9 zn).trans o5⟩
                          · cases h2; subst h1; exact ⟨w5, w6, w7, w8, w11⟩
                        exact ih36 g (L ++ [(f, la - f + 1)]) u7.1 u7.2 fv (by omega) n1 (by omega) (by omega) (by omega) n3 (by rw [n2]; exact w2) n4 n5 n6 _ _ hP hD hS ls (lv_sub hl [1, 2, 0] rfl)
                      · have c78 : ¬ 10 ≤ lk := fun q9 => c78 (show nI 10 ≤ nI lk from (nI_leI (a := 10) (b := lk) (by omega) (by omega)).mpr q9)
                        refine lv_iload hx hb dMo_hear_81 (lv_at hl 4 rfl) ?_
                        refine lv_aload_n hx hb dMo_hear_83 rfl (lv_at hl 0 rfl) ?_
                        refine va_get (D := (dC, dI)) (ci := 8) (v := .int (J 0 7)) (C := RMo) (T := TMo) (N := 27) hx hb hts inMo hown hK hP 0 rfl rfl 7 (by decide) (hts _ tw_654) (fun _ h9 => h9) rfl dMo_hear_84 ?_
                        refine rw_i (y := nI gp) (by rw [hJ0 7 (by decide) (by decide) (by decide), eI1, ui_n _ _ _ (by decide)]; exact h7) ?_
                        refine lv_icmp_ge (tgt := 120) hx hb dMo_hear_87 (by decide) (fun c87 => ?_) (fun c87 => ?_)
                        · have c87 : gp ≤ q := (nI_leI (a := gp) (b := q) (by omega) (by omega)).mp (show nI gp ≤ nI q from c87)
                          rw [hs_in_e fw (by omega)] at hin
                          refine lv_aload_n hx hb dMo_hear_120 rfl (lv_at hl 0 rfl) ?_
                          refine lv_iload_n hx hb dMo_hear_121 rfl (lv_at hl 2 rfl) ?_
                          refine lv_iload_n hx hb dMo_hear_122 rfl (lv_at hl 3 rfl) ?_
                          refine lv_iload_n hx hb dMo_hear_123 rfl (lv_at hl 2 rfl) ?_
                          refine lv_isub hx hb dMo_hear_124 ?_
                          refine rw_i (y := nI (la - f)) (pk_sub (by omega)) ?_
                          refine lv_iconst (v := nI 1) hx hb dMo_hear_125 (by decide +kernel) ?_
                          refine lv_iadd hx hb dMo_hear_126 ?_
                          refine rw_i (y := nI ((la - f) + 1)) (nI_add _ _) ?_
                          obtain ⟨m8, em8⟩ : ∃ m8, m8 = la - f + 1 := ⟨_, rfl⟩
                          refine ct_v (va_runV (As := [.int (nI f), .int (nI ((la - f) + 1))]) (rest := []) ⟨hx, hb, hml, hown, hts⟩ (kMo_writes l dC dI k b J E _ f (la - f + 1) L.length ns hn (by rw [hJ0 3 (by decide) (by decide) (by decide), eI1, ui_n _ _ _ (by decide)]; exact h3) (fun i hi => by rw [hE9 _ (by decide) (by decide) (by decide) (by decide)]; exact hsm i hi) (fun i hi => by rw [hE9 _ (by decide) (by decide) (by decide) (by decide)]; exact hc i hi) (fun i hi => by rw [hE9 _ (by decide) (by decide) (by decide) (by decide)]; exact hsn i hi) np rw9 hnp (by rw [hJ0 5 (by decide) (by decide) (by decide), eI1, ui_n _ _ _ (by decide)]; exact h5) (fun j hj => by rw [hJ 3 (by decide) (by decide)]; exact hr9 j hj) (fun j hj q hq => by rw [hE9 _ (by decide) (by decide) (by decide) (by decide)]; exact hl9 j hj q hq) hJ6 (by omega) (by omega) (by omega) (by omega)) (cwV 2 hts (gw_V tw_854 tw_856 sl_Mo_writes tw_9 tw_857) rfl rfl rfl (by decide +kernel) ⟨Nat.le_of_ble_eq_true rfl, Nat.le_of_ble_eq_true rfl⟩) ⟨ct_blind (ev := fun _ => True) (fun _ _ _ _ h => h), va_recv hK hP (ci := 8) (q0 := 0) rfl rfl, ct_now (ev := fun _ => True) (fun _ _ _ => trivial) hP hK hD⟩ rfl rfl hl.1 rfl (lv_room (Nat.le_of_ble_eq_true rfl)) dMo_hear_127 ⟨Nat.le_of_ble_eq_true rfl, Nat.le_of_ble_eq_true rfl⟩) hD hS hA (fun u8 H locs hw8 hP hD hS => ?_)
                          rw [hE9 1 (by decide) (by decide) (by decide) (by decide), hE9 2 (by decide) (by decide) (by decide) (by decide), hE9 0 (by decide) (by decide) (by decide) (by decide), hJ 2 (by decide) (by decide)] at hw8
                          obtain ⟨w1, w2, w3, w4, w5, w6, w7, w8, w9, w10, w11⟩ := hw8
                          refine lv_iload hx hb dMo_hear_130 (lv_at hl 6 rfl) ?_
                          refine lv_istore_n (lv' := [(2, .int (nI g)), (0, .ref (b 0)), (1, .int (nI (hd_nf ns))), (3, .int (nI la)), (4, .int (nI q)), (5, .int (nI lk)), (6, .int (nI g))]) hx hb dMo_hear_132 rfl hl (by decide) rfl (fun ls hl => ?_)
                          refine lv_goto (tgt := 36) hx hb dMo_hear_133 (by decide) ?_
                          have n1 : (L ++ [(f, la - f + 1)]) ++ hs_w (D 1) (D 0 0) (hd_nf ns) gp fv g = hs_w (D 1) (D 0 0) (hd_nf ns) gp 20 0 := by rw [← hL, hs_w_l c38b g43, ← hin, List.append_assoc]; rfl
                          have n2 : (L ++ [(f, la - f + 1)]).length = L.length + 1 := List.length_append
                          have n3 : ∀ z, z ≠ 6 → z ≠ 8 → z ≠ 9 → u8.1 0 z = I1 0 z := fun z z6 z8 z9 => (w1 z z6 z8 z9).trans (hJ0 z z6 z8 z9)
                          have n4 : ∀ c, c ≠ 0 → c < 4 → u8.1 c = I c := fun c z0 z4 => (w3 c z0 z4).trans (hJ c z0 z4)
                          have n5 : ∀ c, c ≠ 3 → c ≠ 4 → c ≠ 5 → c ≠ 6 → u8.2 c = D c := fun c z3 z4 z5 z6 => (w9 c z3 z4 z5 z6).trans (hE9 c z3 z4 z5 z6)
                          have n6 : ∀ k9 f9 m9, (L ++ [(f, la - f + 1)])[k9]? = some (f9, m9) → u8.1 5 k9 = nI f9 ∧ u8.1 6 k9 = nI m9 ∧ u8.1 7 k9 = hr_n (fun k8 => hw_wa (hw_lv (D 1) f9) (fun q => D 2 (32 * k8 + q)) m9 (rw9 k8)) np ∧ u8.1 4 k9 = hr_l (fun k8 => hw_wa (hw_lv (D 1) f9) (fun q => D 2 (32 * k8 + q)) m9 (rw9 k8)) (I 2) (D 0 1) np ∧ u8.2 3 k9 = (hr_p (fun k8 => hw_wa (hw_lv (D 1) f9) (fun q => D 2 (32 * k8 + q)) m9 (rw9 k8)) np).2 := fun k9 f9 m9 h => by
                            rcases la_app h with ⟨h1, h2⟩ | ⟨h1, h2⟩
                            · obtain ⟨o1, o2, o3, o4, o5⟩ := hWo k9 f9 m9 h2
                              have zn : k9 ≠ L.length := by omega
                              exact ⟨(w4 5 (by decide) k9 zn).trans o1, (w4 6 (by decide) k9 zn).trans o2, (w4 7 (by decide) k9 zn).trans o3, (w4 4 (by decide) k9 zn).trans o4, (w10 k9 zn).trans o5⟩
                            · cases h2; subst h1; exact ⟨w5, w6, w7, w8, w11⟩
                          exact ih36 g (L ++ [(f, la - f + 1)]) u8.1 u8.2 fv (by omega) n1 (by omega) (by omega) (by omega) n3 (by rw [n2]; exact w2) n4 n5 n6 _ _ hP hD hS ls (lv_sub hl [1, 2, 0] rfl)
                        · have c87 : ¬ gp ≤ q := fun q9 => c87 (show nI gp ≤ nI q from (nI_leI (a := gp) (b := q) (by omega) (by omega)).mpr q9)
                          obtain ⟨fx, rfl⟩ : ∃ fx, fw = fx + 1 := ⟨fw - 1, by omega⟩
                          refine lv_aload_n hx hb dMo_hear_90 rfl (lv_at hl 0 rfl) ?_
                          refine lv_iload hx hb dMo_hear_91 (lv_at hl 6 rfl) ?_
                          have hfi := nf_lt (n := ns) (j := g) (by omega)
                          refine ct_i (va_runV (As := [.int (nI g)]) (rest := []) ⟨hx, hb, hml, hown, hts⟩ (kMo_isLoud l dC dI k b J E _ g (by omega) (fun i hi => by rw [hE9 _ (by decide) (by decide) (by decide) (by decide)]; exact hsm _ (by omega)) (fun i hi => by rw [hE9 _ (by decide) (by decide) (by decide) (by decide)]; exact hc i hi) (fun i hi => by rw [hE9 _ (by decide) (by decide) (by decide) (by decide)]; exact hsn i hi)) (cwV 1 hts (gw_V tw_850 tw_852 sl_Mo_isLoud tw_9 tw_853) rfl rfl rfl (by decide +kernel) ⟨Nat.le_of_ble_eq_true rfl, Nat.le_of_ble_eq_true rfl⟩) ⟨ct_blind (ev := fun _ => True) (fun _ _ _ _ h => h), va_recv hK hP (ci := 8) (q0 := 0) rfl rfl, ct_now (ev := fun _ => True) (fun _ _ _ => trivial) hP hK hD⟩ rfl rfl hl.1 rfl (lv_room (Nat.le_of_ble_eq_true rfl)) dMo_hear_93 ⟨Nat.le_of_ble_eq_true rfl, Nat.le_of_ble_eq_true rfl⟩) hD hS hA (fun r9 u9 H locs hw9 hP hD hS => ?_)
                          by_cases g93 : hd_ld (E 1) g (E 0 0)
                          · rw [if_pos g93] at hw9
                            subst hw9
                            refine rw_i (y := nI 1) rfl ?_
                            rw [hE9 1 (by decide) (by decide) (by decide) (by decide), hE9 0 (by decide) (by decide) (by decide) (by decide)] at g93
                            refine lv_if_eq (tgt := 108) hx hb dMo_hear_96 (by decide) (fun c96 => ?_) (fun c96 => ?_)
                            · have c96 : 1 = 0 := (nI_eq (a := 1) (b := 0) (by omega) (by omega)).mp (show nI 1 = nI 0 from c96)
                              exact absurd c96 (by decide)
                            · have c96 : ¬ 1 = 0 := fun q9 => c96 (show nI 1 = nI 0 from (nI_eq (a := 1) (b := 0) (by omega) (by omega)).mpr q9)
                              refine lv_iload hx hb dMo_hear_99 (lv_at hl 6 rfl) ?_
                              refine lv_istore_n (lv' := [(3, .int (nI g)), (0, .ref (b 0)), (1, .int (nI (hd_nf ns))), (2, .int (nI f)), (4, .int (nI q)), (5, .int (nI lk)), (6, .int (nI g))]) hx hb dMo_hear_101 rfl hl (by decide) rfl (fun ls hl => ?_)
                              refine lv_iconst (v := nI 0) hx hb dMo_hear_102 (by decide +kernel) ?_
                              refine lv_istore (lv' := [(4, .int (nI 0)), (3, .int (nI g)), (0, .ref (b 0)), (1, .int (nI (hd_nf ns))), (2, .int (nI f)), (5, .int (nI lk)), (6, .int (nI g))]) hx hb dMo_hear_103 hl (by decide) rfl (fun ls hl => ?_)
                              refine lv_goto (tgt := 111) hx hb dMo_hear_105 (by decide) ?_
                              refine lv_iinc (v := nI (lk + 1)) (lv' := [(5, .int (nI (lk + 1))), (4, .int (nI 0)), (3, .int (nI g)), (0, .ref (b 0)), (1, .int (nI (hd_nf ns))), (2, .int (nI f)), (6, .int (nI g))]) hx hb dMo_hear_111 hl (k := 5) rfl (nI_1 _) (by decide) rfl (fun ls hl => ?_)
                              refine lv_iinc (v := nI (g + 1)) (lv' := [(6, .int (nI (g + 1))), (5, .int (nI (lk + 1))), (4, .int (nI 0)), (3, .int (nI g)), (0, .ref (b 0)), (1, .int (nI (hd_nf ns))), (2, .int (nI f))]) hx hb dMo_hear_114 hl (k := 6) rfl (nI_1 _) (by decide) rfl (fun ls hl => ?_)
                              refine lv_goto (tgt := 68) hx hb dMo_hear_117 (by decide) ?_
                              exact ih68 (g + 1) g 0 (lk + 1) fx (by omega) (by rw [← hin, hs_in_l ⟨by omega, by omega, by omega⟩ g93]) (by omega) (by omega) (by omega) (by omega) (by omega) (by omega) _ _ hP hD hS ls (lv_sub hl [4, 5, 6, 3, 2, 1, 0] rfl)
                          · rw [if_neg g93] at hw9
                            subst hw9
                            refine rw_i (y := nI 0) rfl ?_
                            rw [hE9 1 (by decide) (by decide) (by decide) (by decide), hE9 0 (by decide) (by decide) (by decide) (by decide)] at g93
                            refine lv_if_eq (tgt := 108) hx hb dMo_hear_96 (by decide) (fun c96 => ?_) (fun c96 => ?_)
                            · have c96 : 0 = 0 := (nI_eq (a := 0) (b := 0) (by omega) (by omega)).mp (show nI 0 = nI 0 from c96)
                              refine lv_iinc (v := nI (q + 1)) (lv' := [(4, .int (nI (q + 1))), (0, .ref (b 0)), (1, .int (nI (hd_nf ns))), (2, .int (nI f)), (3, .int (nI la)), (5, .int (nI lk)), (6, .int (nI g))]) hx hb dMo_hear_108 hl (k := 4) rfl (nI_1 _) (by decide) rfl (fun ls hl => ?_)
                              refine lv_iinc (v := nI (lk + 1)) (lv' := [(5, .int (nI (lk + 1))), (4, .int (nI (q + 1))), (0, .ref (b 0)), (1, .int (nI (hd_nf ns))), (2, .int (nI f)), (3, .int (nI la)), (6, .int (nI g))]) hx hb dMo_hear_111 hl (k := 5) rfl (nI_1 _) (by decide) rfl (fun ls hl => ?_)
                              refine lv_iinc (v := nI (g + 1)) (lv' := [(6, .int (nI (g + 1))), (5, .int (nI (lk + 1))), (4, .int (nI (q + 1))), (0, .ref (b 0)), (1, .int (nI (hd_nf ns))), (2, .int (nI f)), (3, .int (nI la))]) hx hb dMo_hear_114 hl (k := 6) rfl (nI_1 _) (by decide) rfl (fun ls hl => ?_)
                              refine lv_goto (tgt := 68) hx hb dMo_hear_117 (by decide) ?_
                              exact ih68 (g + 1) la (q + 1) (lk + 1) fx (by omega) (by rw [← hin, hs_in_q ⟨by omega, by omega, by omega⟩ g93]) (by omega) (by omega) (by omega) (by omega) (by omega) (by omega) _ _ hP hD hS ls (lv_sub hl [3, 4, 5, 6, 2, 1, 0] rfl)
                            · have c96 : ¬ 0 = 0 := fun q9 => c96 (show nI 0 = nI 0 from (nI_eq (a := 0) (b := 0) (by omega) (by omega)).mpr q9)
                              exact absurd (by decide) c96
                exact L68 _ (f + 1) f 0 1 10 (Nat.lt_succ_self _) rfl (by omega) (by omega) (by omega) (by omega) (by omega) (by omega) _ _ hP hD hS ls (lv_sub hl [4, 5, 6, 3, 2, 1, 0] rfl)
              · have c46 : 1 = 0 := (nI_eq (a := 1) (b := 0) (by omega) (by omega)).mp (show nI 1 = nI 0 from c46)
                exact absurd c46 (by decide)
            · rw [if_neg g43] at hw5
              subst hw5
              refine rw_i (y := nI 0) rfl ?_
              rw [hE9 1 (by decide) (by decide) (by decide) (by decide), hE9 0 (by decide) (by decide) (by decide) (by decide)] at g43
              refine lv_if_ne (tgt := 55) hx hb dMo_hear_46 (by decide) (fun c46 => ?_) (fun c46 => ?_)
              · have c46 : ¬ 0 = 0 := fun q9 => c46 (show nI 0 = nI 0 from (nI_eq (a := 0) (b := 0) (by omega) (by omega)).mpr q9)
                exact absurd (by decide) c46
              · have c46 : 0 = 0 := (nI_eq (a := 0) (b := 0) (by omega) (by omega)).mp (show nI 0 = nI 0 from c46)
                refine lv_iinc (v := nI (f + 1)) (lv' := [(2, .int (nI (f + 1))), (0, .ref (b 0)), (1, .int (nI (hd_nf ns)))]) hx hb dMo_hear_49 hl (k := 2) rfl (nI_1 _) (by decide) rfl (fun ls hl => ?_)
                refine lv_goto (tgt := 36) hx hb dMo_hear_52 (by decide) ?_
                exact ih36 (f + 1) L J E fv (by omega) (by rw [← hL, hs_w_q c38b g43]) (by omega) (by omega) (by omega) hJ0 hJ6 hJ hE9 hWo _ _ hP hD hS ls (lv_sub hl [1, 2, 0] rfl)
      exact L36 _ 0 ([]) I4 D 20 (Nat.lt_succ_self _) rfl (by omega) (by omega) (Nat.le_refl 0) (fun z z6 z8 z9 => by rw [eI4, ui_n _ _ _ z6]) (by rw [eI4, ui_s]; first | done | rfl) (fun c z0 z4 => by rw [eI4, ui_o _ _ _ z0, eI1, ui_o _ _ _ z0]) (fun c z3 z4 z5 z6 => rfl) (fun k9 f9 m9 h => by cases h) _ _ hP hD hS ls (lv_sub hl [2, 1, 0] rfl)
    · have c26 : ¬ 0 = 0 := fun q9 => c26 (show nI 0 = nI 0 from (nI_eq (a := 0) (b := 0) (by omega) (by omega)).mpr q9)
      exact absurd (by decide) c26
  · have c14 : (hd_nf ns) = 0 := (nI_eq (a := (hd_nf ns)) (b := 0) (by omega) (by omega)).mp (show nI (hd_nf ns) = nI 0 from c14)
    refine lv_iconst (v := nI 1) hx hb dMo_hear_17 (by decide +kernel) ?_
    refine lv_goto (tgt := 22) hx hb dMo_hear_18 (by decide) ?_
    refine lv_iconst (v := nI 1) hx hb dMo_hear_22 (by decide +kernel) ?_
    refine ct_i (va_runV (As := [.int (nI 1), .int (nI 1)]) (rest := []) ⟨hx, hb, hml, hown, hts⟩ (kMo_fails1 l dC dI k b I1 D _ 1 (by omega) (by omega) (by rw [eI1, ui_s])) (cwV 2 hts (gw_V tw_737 tw_739 sl_Mo_fails tw_9 tw_740) rfl rfl rfl (by decide +kernel) ⟨Nat.le_of_ble_eq_true rfl, Nat.le_of_ble_eq_true rfl⟩) ⟨ct_blind (ev := fun _ => True) (fun _ _ _ _ h => h), va_recv hK hP (ci := 8) (q0 := 0) rfl rfl, ct_now (ev := fun _ => True) (fun _ _ _ => trivial) hP hK hD⟩ rfl rfl hl.1 rfl (lv_room (Nat.le_of_ble_eq_true rfl)) dMo_hear_23 ⟨Nat.le_of_ble_eq_true rfl, Nat.le_of_ble_eq_true rfl⟩) hD hS hA (fun r10 u10 H locs hw10 hP hD hS => ?_)
    obtain ⟨r10e, eu10⟩ := hw10
    subst r10e
    refine lv_if_eq (tgt := 31) hx hb dMo_hear_26 (by decide) (fun c26 => ?_) (fun c26 => ?_)
    · have c26 : 1 = 0 := (nI_eq (a := 1) (b := 0) (by omega) (by omega)).mp (show nI 1 = nI 0 from c26)
      exact absurd c26 (by decide)
    · have c26 : ¬ 1 = 0 := fun q9 => c26 (show nI 1 = nI 0 from (nI_eq (a := 1) (b := 0) (by omega) (by omega)).mpr q9)
      refine lv_iconst (v := nI 0) hx hb dMo_hear_29 (by decide +kernel) ?_
      rw [hQ9]
      exact ct_ri hx hb hr hlocks (u10, D) (Or.inl ⟨by omega, by rw [eu10, eI1]⟩) hP hD hS (Nat.le_refl _) (Nat.le_refl _) dMo_hear_30
