set_option maxHeartbeats 4000000 in
set_option maxRecDepth 100000 in
theorem kWo_recognise (l : Launch) (dC : Nat → ClassId) (dI : Nat → Nat → Nat) (k : Nat → ClassId) (b P : Nat → Nat) (I : Nat → Nat → Int32) (D : Nat → Nat → UInt64) (sz : Nat) (x f m9 ns : Nat) (lm : UInt64) (sa : Nat → UInt64) (hx9 : x < 19) (hn : ns ≤ 320) (hsm : ∀ i, i < ns → fb_ 1057 (sa i)) (w4 : I 4 x = nI f) (w5 : I 5 x = nI m9) (w6 : I 6 x = -1) (w7 : I 7 x = nI 63) (w9 : D 9 x = 0) (hf : f + m9 ≤ hd_nf ns) (g1 : 1 ≤ m9) (g2 : m9 ≤ 10) (hlv : ∀ q, q < 4 * hd_nf ns → D 4 q = hw_lv sa 0 q) (np : Nat) (rw9 : Nat → Nat) (hnp : np ≤ 6) (h6 : I 0 6 = nI np) (hp6 : ∀ j, j < 6 → P j < 6) (hr9 : ∀ j, j < np → I 3 (P j) = nI (rw9 j) ∧ 1 ≤ rw9 j ∧ rw9 j ≤ 8) (hl9 : ∀ j, j < np → ∀ q, q < 4 * rw9 j → fb_ 1155 (D (10 + P j) q)) : Met l yWo_recognise wWo_recognise ({ frames := 3, cells := 0, slots := 0, locals := 75 }) (va_Pc [.ref (b (29 + x)), .ref (b 7), .ref (b 12), .double lm] (ct_pre (dC, dI) (de_ty k) ev_N (wd k b P I D) sz)) (va_Qv (fun (u : (Nat → Nat → Int32) × (Nat → Nat → UInt64)) => u.1 6 x = hr_n (fun k9 => hw_wa (hw_lv sa f) (D (10 + P k9)) m9 (rw9 k9)) np ∧ u.1 7 x = hr_l (fun k9 => hw_wa (hw_lv sa f) (D (10 + P k9)) m9 (rw9 k9)) (fun k9 => I 2 (P k9)) lm np ∧ u.2 9 x = (hr_p (fun k9 => hw_wa (hw_lv sa f) (D (10 + P k9)) m9 (rw9 k9)) np).2 ∧ (∀ c, c ≠ 6 → c ≠ 7 → u.1 c = I c) ∧ (∀ c z, z ≠ x → u.1 c z = I c z) ∧ (∀ c, c ≠ 8 → c ≠ 9 → u.2 c = D c) ∧ (∀ z, z ≠ x → u.2 9 z = D 9 z)) (fun u t => ct_at (dC, dI) (va_A (wd k b P I D) sz) ((fun u => wd k b P u.1 u.2) u) t) (va_A (wd k b P I D) sz)) 0 0 (va_A (wd k b P I D) sz) := by
  refine Met.ofW (cc := cWo_recognise) (maxL := 8) (ret := none) (by decide) rfl ?_
  intro p e s m args below meth c s₁ B hml hv
  obtain ⟨rfl, hsz, hP, hK, hD0, hE⟩ := hv
  have hx := B.exec
  have hb := B.bytes
  have hr := B.returns
  have hts : ∀ w ∈ W0, w.before [.ref (b (29 + x)), .ref (b 7), .ref (b 12), .double lm].toArray s = true := fun w h => atoms_spec (ws := wWo_recognise) B.pre w (List.mem_cons_of_mem _ h)
  have hown : s.vm.findClass RWo = some m.cls := findClass_of_methodNamed B.named
  have hlocks := B.notSynchronized
  subst hsz
  have hP0 := hP
  have hD := hD0.self (sz := s.heap.size)
  generalize hAe : va_A (wd k b P I D) s.heap.size = A at hD ⊢
  have hA : ∀ q : Nat, s.heap.size ≤ q → A q := fun q h => by rw [← hAe]; exact Or.inr h
  have hS : va_S A s.heap s.heap [] := va_S.rf
  have hl := lv_entry ([.ref (b (29 + x)), .ref (b 7), .ref (b 12), .double lm]) (n := 8) (Nat.le_of_ble_eq_true rfl)
  rw [lg_entry_eq]
  generalize (lg_sl ([.ref (b (29 + x)), .ref (b 7), .ref (b 12), .double lm]) ++ List.replicate (8 - (lg_sl ([.ref (b (29 + x)), .ref (b 7), .ref (b 12), .double lm])).length) Slot.unset).toArray = ls at hl ⊢
  have hl : lv_has ls 8 [(0, .ref (b (29 + x))), (1, .ref (b 7)), (2, .ref (b 12)), (3, .double lm)] := hl
  refine lp_q (fun Q9 hQ9 => ?_)
  have hnf := nf_le hn
  generalize hW9 : (fun k9 => hw_wa (hw_lv sa f) (D (10 + P k9)) m9 (rw9 k9)) = W9
  have hWk : ∀ k9, W9 k9 = hw_wa (hw_lv sa f) (D (10 + P k9)) m9 (rw9 k9) := fun k9 => by rw [← hW9]
  refine lv_iconst (v := nI 0) hx hb dWo_recognise_0 (by decide +kernel) ?_
  refine lv_istore (lv' := [(5, .int (nI 0)), (0, .ref (b (29 + x))), (1, .ref (b 7)), (2, .ref (b 12)), (3, .double lm)]) hx hb dWo_recognise_1 hl (by decide) rfl (fun ls hl => ?_)
  have L3 : ∀ (n3 : Nat) (kk : Nat) (J : Nat → Nat → Int32) (E : Nat → Nat → UInt64), np - kk < n3 → kk ≤ np → (∀ c, c ≠ 6 → J c = I c) → (∀ z, z ≠ x → J 6 z = I 6 z) → J 6 x = hr_n W9 kk → (∀ c, c ≠ 8 → c ≠ 9 → E c = D c) → (∀ z, z ≠ x → E 9 z = D 9 z) → E 9 x = (hr_p W9 kk).2 → ∀ (H : Heap) (locs : List Loc), va_P (dC, dI) vwCl (wd k b P J E) H → va_D A (wd k b P J E) → va_S A s.heap H locs → ∀ ls : Array Slot, lv_has ls 8 [(0, .ref (b (29 + x))), (1, .ref (b 7)), (2, .ref (b 12)), (3, .double lm), (5, .int (nI kk))] → W p l e (headSpec wWo_recognise ({ frames := 3, cells := 0, slots := 0, locals := 75 })).room s m [.ref (b (29 + x)), .ref (b 7), .ref (b 12), .double lm].toArray below meth c H locs 0 0 Q9 (F0 m 3 ls []) := by
    intro n3
    induction n3 with
    | zero => intro kk J E hm; exact absurd hm (Nat.not_lt_zero _)
    | succ n3 ih3 =>
      intro kk J E hm3 hkk hJ hJz hJx hE9 hEz hEx H locs hP hD hS ls hl
      refine lv_iload hx hb dWo_recognise_3 (lv_at hl 4 rfl) ?_
      refine lv_aload_n hx hb dWo_recognise_5 rfl (lv_at hl 2 rfl) ?_
      refine va_getN (D := (dC, dI)) (ci := 2) (v := .int (J 0 6)) (C := RBo) (T := TBo) (N := 3) hx hb hts inBo hown hK hP 12 rfl rfl 2 (by decide) (va_Nw.use rfl (hE _ en_134)) (fun _ h9 => h9) rfl dWo_recognise_6 ?_
      refine rw_i (y := nI np) (by rw [hJ 0 (by decide)]; exact h6) ?_
      refine lv_icmp_ge (tgt := 73) hx hb dWo_recognise_9 (by decide) (fun c9 => ?_) (fun c9 => ?_)
      · have c9 : np ≤ kk := (nI_leI (a := np) (b := kk) (by omega) (by omega)).mp (show nI np ≤ nI kk from c9)
        have ek : kk = np := by omega
        rw [ek] at hJx hEx
        by_cases k0 : np = 0
        · refine lv_aload_n hx hb dWo_recognise_73 rfl (lv_at hl 0 rfl) ?_
          refine va_get (D := (dC, dI)) (ci := 5) (v := .int (J 6 x)) (C := RWo) (T := TWo) (N := 5) hx hb hts inWo hown hK hP (29 + x) (wd_wo hx9) rfl 2 (by decide) (hts _ tw_164) (fun _ h9 => h9) rfl dWo_recognise_74 ?_
          refine rw_i (y := (-1)) (hJx.trans (by rw [k0]; rfl)) ?_
          refine lv_iconst (v := (-1)) hx hb dWo_recognise_77 (by decide +kernel) ?_
          refine lv_icmp_eq (tgt := 106) hx hb dWo_recognise_78 (by decide) (fun c78 => ?_) (fun c78 => ?_)
          · have q1 := hJx
            have q2 : J 7 x = hr_l W9 (fun k9 => I 2 (P k9)) lm np := by rw [hJ 7 (by decide), w7]; unfold hr_l; rw [if_neg (fun z => absurd z.1 (by omega))]
            have q3 : ∀ c, c ≠ 6 → c ≠ 7 → J c = I c := fun c z6 z7 => hJ c z6
            have q4 : ∀ c z, z ≠ x → J c z = I c z := fun c z zn => by by_cases e6 : c = 6; (· subst e6; exact hJz z zn); (· rw [hJ c e6])
            rw [hQ9]
            exact ct_rv hx hb hr hlocks (J, E) (by rw [hW9]; exact ⟨q1, q2, hEx, q3, q4, hE9, hEz⟩) hP hD hS (Nat.le_refl _) (Nat.le_refl _) dWo_recognise_106
          · exact absurd rfl c78
        · have hlt := hr_lt W9 np (by omega)
          refine lv_aload_n hx hb dWo_recognise_73 rfl (lv_at hl 0 rfl) ?_
          refine va_get (D := (dC, dI)) (ci := 5) (v := .int (J 6 x)) (C := RWo) (T := TWo) (N := 5) hx hb hts inWo hown hK hP (29 + x) (wd_wo hx9) rfl 2 (by decide) (hts _ tw_164) (fun _ h9 => h9) rfl dWo_recognise_74 ?_
          refine rw_i (y := nI ((hr_p W9 np).1)) (hJx.trans (if_neg k0)) ?_
          refine lv_iconst (v := (-1)) hx hb dWo_recognise_77 (by decide +kernel) ?_
          refine lv_icmp_eq (tgt := 106) hx hb dWo_recognise_78 (by decide) (fun c78 => ?_) (fun c78 => ?_)
          · exact absurd c78 (rd_ne (by omega))
          · refine lv_aload_n hx hb dWo_recognise_81 rfl (lv_at hl 0 rfl) ?_
            refine va_get (D := (dC, dI)) (ci := 5) (v := .double (E 9 x)) (C := RWo) (T := TWo) (N := 5) hx hb hts inWo hown hK hP (29 + x) (wd_wo hx9) rfl 4 (by decide) (hts _ tw_168) (fun _ h9 => h9) rfl dWo_recognise_82 ?_
            refine rw_d (y := (hr_p W9 np).2) hEx ?_
            refine lv_dload_n hx hb dWo_recognise_85 rfl (lv_at hl 3 rfl) ?_
            refine lv_dcmp hx hb dWo_recognise_86 ?_
            refine lv_if_gt (tgt := 106) hx hb dWo_recognise_87 (by decide) (fun c87 => ?_) (fun c87 => ?_)
            · have cm : ¬ (FP.dcmp (hr_p W9 np).2 lm = some .lt ∨ FP.dcmp (hr_p W9 np).2 lm = some .eq) := fun z => Int32.not_le.mpr c87 ((fc_le_g _).mpr z)
              have q1 := hJx
              have q2 : J 7 x = hr_l W9 (fun k9 => I 2 (P k9)) lm np := by rw [hJ 7 (by decide), w7]; unfold hr_l; rw [if_neg (fun z => cm z.2)]
              have q3 : ∀ c, c ≠ 6 → c ≠ 7 → J c = I c := fun c z6 z7 => hJ c z6
              have q4 : ∀ c z, z ≠ x → J c z = I c z := fun c z zn => by by_cases e6 : c = 6; (· subst e6; exact hJz z zn); (· rw [hJ c e6])
              rw [hQ9]
              exact ct_rv hx hb hr hlocks (J, E) (by rw [hW9]; exact ⟨q1, q2, hEx, q3, q4, hE9, hEz⟩) hP hD hS (Nat.le_refl _) (Nat.le_refl _) dWo_recognise_106
            · have cm : FP.dcmp (hr_p W9 np).2 lm = some .lt ∨ FP.dcmp (hr_p W9 np).2 lm = some .eq := (fc_le_g _).mp (Int32.not_lt.mp c87)
              refine lv_aload_n hx hb dWo_recognise_90 rfl (lv_at hl 0 rfl) ?_
              refine lv_aload_n hx hb dWo_recognise_91 rfl (lv_at hl 2 rfl) ?_
              refine va_getN (D := (dC, dI)) (ci := 2) (v := .ref (b 13)) (C := RBo) (T := TBo) (N := 3) hx hb hts inBo hown hK hP 12 rfl rfl 0 (by decide) (va_Nw.use rfl (hE _ en_130)) (fun _ h9 => h9) rfl dWo_recognise_92 ?_
              refine lv_aload_n hx hb dWo_recognise_95 rfl (lv_at hl 0 rfl) ?_
              refine va_get (D := (dC, dI)) (ci := 5) (v := .int (J 6 x)) (C := RWo) (T := TWo) (N := 5) hx hb hts inWo hown hK hP (29 + x) (wd_wo hx9) rfl 2 (by decide) (hts _ tw_164) (fun _ h9 => h9) rfl dWo_recognise_96 ?_
              refine rw_i (y := nI ((hr_p W9 np).1)) (hJx.trans (if_neg k0)) ?_
              refine rw_ald_q (x := b (17 + P ((hr_p W9 np).1))) hx hb hK hP 13 2 rfl rfl (if_pos (by omega)) (by omega) (by decide) dWo_recognise_99 ?_
              refine va_getN (D := (dC, dI)) (ci := 1) (v := .int (J 2 (P ((hr_p W9 np).1)))) (C := RPa) (T := TPa) (N := 3) hx hb hts inPa hown hK hP (17 + P ((hr_p W9 np).1)) (wd_pa (hp6 _ (by omega))) rfl 1 (by decide) (va_Nw.use rfl (hE _ en_118)) (fun _ h9 => h9) rfl dWo_recognise_100 ?_
              refine va_put (D := (dC, dI)) (ci := 5) (fs := wo_f x b J E) (v := .int (J 2 (P ((hr_p W9 np).1)))) (ty := .int) (C := RWo) (T := TWo) (N := 5) hx hb hts inWo tyWo tyWo_ok nmWo hown hK hP hD hS (29 + x) (wd_wo hx9) rfl 3 (by decide) (hts _ tw_166) (fun _ h9 => h9) rfl (by decide +kernel) rfl rfl (Nat.le_of_ble_eq_true rfl) dWo_recognise_103 (fun H locs hP hD hS => ?_)
              rw [wd_pw3 hx9] at hP hD
              obtain ⟨I1, eI1⟩ : ∃ z, z = ui J 7 x (J 2 (P ((hr_p W9 np).1))) := ⟨_, rfl⟩
              rw [← eI1] at hP hD
              have q1 : I1 6 x = hr_n W9 np := by rw [eI1, ui_o _ _ _ (by decide)]; exact hJx
              have q2 : I1 7 x = hr_l W9 (fun k9 => I 2 (P k9)) lm np := by rw [eI1, ui_s]; unfold hr_l; rw [if_pos ⟨by omega, cm⟩, hJ 2 (by decide)]
              have q3 : ∀ c, c ≠ 6 → c ≠ 7 → I1 c = I c := fun c z6 z7 => by rw [eI1, ui_o _ _ _ z7]; exact hJ c z6
              have q4 : ∀ c z, z ≠ x → I1 c z = I c z := fun c z zn => by rw [eI1, ui_z _ _ _ _ zn]; by_cases e6 : c = 6; (· subst e6; exact hJz z zn); (· rw [hJ c e6])
              rw [hQ9]
              exact ct_rv hx hb hr hlocks (I1, E) (by rw [hW9]; exact ⟨q1, q2, hEx, q3, q4, hE9, hEz⟩) hP hD hS (Nat.le_refl _) (Nat.le_refl _) dWo_recognise_106
      · have c9 : ¬ np ≤ kk := fun q9 => c9 (show nI np ≤ nI kk from (nI_leI (a := np) (b := kk) (by omega) (by omega)).mpr q9)
        refine lv_aload_n hx hb dWo_recognise_12 rfl (lv_at hl 2 rfl) ?_
        refine lv_aload_n hx hb dWo_recognise_13 rfl (lv_at hl 1 rfl) ?_
        refine va_getN (D := (dC, dI)) (ci := 3) (v := .ref (b 11)) (C := RSo) (T := TSo) (N := 7) hx hb hts inSo hown hK hP 7 rfl rfl 4 (by decide) (va_Nw.use rfl (hE _ en_80)) (fun _ h9 => h9) rfl dWo_recognise_14 ?_
        refine lv_aload_n hx hb dWo_recognise_17 rfl (lv_at hl 0 rfl) ?_
        refine va_get (D := (dC, dI)) (ci := 5) (v := .int (J 4 x)) (C := RWo) (T := TWo) (N := 5) hx hb hts inWo hown hK hP (29 + x) (wd_wo hx9) rfl 0 (by decide) (hts _ tw_160) (fun _ h9 => h9) rfl dWo_recognise_18 ?_
        refine rw_i (y := nI f) (by rw [hJ 4 (by decide)]; exact w4) ?_
        refine lv_aload_n hx hb dWo_recognise_21 rfl (lv_at hl 0 rfl) ?_
        refine va_get (D := (dC, dI)) (ci := 5) (v := .int (J 5 x)) (C := RWo) (T := TWo) (N := 5) hx hb hts inWo hown hK hP (29 + x) (wd_wo hx9) rfl 1 (by decide) (hts _ tw_162) (fun _ h9 => h9) rfl dWo_recognise_22 ?_
        refine rw_i (y := nI m9) (by rw [hJ 5 (by decide)]; exact w5) ?_
        refine lv_aload_n hx hb dWo_recognise_25 rfl (lv_at hl 2 rfl) ?_
        refine va_getN (D := (dC, dI)) (ci := 2) (v := .ref (b 13)) (C := RBo) (T := TBo) (N := 3) hx hb hts inBo hown hK hP 12 rfl rfl 0 (by decide) (va_Nw.use rfl (hE _ en_130)) (fun _ h9 => h9) rfl dWo_recognise_26 ?_
        refine lv_iload hx hb dWo_recognise_29 (lv_at hl 4 rfl) ?_
        refine rw_ald_q (x := b (17 + P kk)) hx hb hK hP 13 2 rfl rfl (if_pos (by omega)) (by omega) (by decide) dWo_recognise_31 ?_
        have rk := hr9 kk (by omega)
        refine ct_d (va_runV (As := [.ref (b 11), .int (nI f), .int (nI m9), .ref (b (17 + P kk))]) (rest := []) ⟨hx, hb, hml, hown, hts⟩ (kBo_distance l dC dI k b P J E _ 11 76 f m9 (P kk) (rw9 kk) (E 4) (fun v => rfl) (by decide) (by omega) (hp6 kk (by omega)) (by rw [hJ 3 (by decide)]; exact rk.1) g1 g2 rk.2.1 rk.2.2 (fun q hq => by rw [hE9 4 (by decide) (by decide), hlv _ (by omega), hw_lv_s]; exact hw_lv_b hsm hf hq) (fun q hq => by rw [hE9 _ (by omega) (by omega)]; exact hl9 kk (by omega) q hq)) (cwV 4 hts (gw_V tw_603 tw_548 tw_549 tw_5 tw_550) rfl rfl rfl (by decide +kernel) ⟨Nat.le_of_ble_eq_true rfl, Nat.le_of_ble_eq_true rfl⟩) ⟨ct_blind (ev := ev_N) ev_N.blind, va_recv hK hP (ci := 2) (q0 := 12) rfl rfl, ct_now (ev := ev_N) (fun U _ hW => hE.warm hW) hP hK hD⟩ rfl rfl hl.1 rfl (lv_room (Nat.le_of_ble_eq_true rfl)) dWo_recognise_32 ⟨Nat.le_of_ble_eq_true rfl, Nat.le_of_ble_eq_true rfl⟩) hD hS hA (fun r2 u2 H locs hw2 hP hD hS => ?_)
        have w1 : r2 = W9 kk := by
          rw [hw2, hWk]
          exact hw_wa_g (fun q hq => by rw [hE9 4 (by decide) (by decide), hlv _ (by omega), hw_lv_s]) (fun q hq => by rw [hE9 _ (by omega) (by omega)]) g1 rk.2.1
        clear hw2
        subst w1
        obtain ⟨E8, eE8⟩ : ∃ z, z = us E 8 u2 := ⟨_, rfl⟩
        rw [← eE8] at hP hD
        refine lv_dstore (lv' := [(6, .double (W9 kk)), (0, .ref (b (29 + x))), (1, .ref (b 7)), (2, .ref (b 12)), (3, .double lm), (5, .int (nI kk))]) hx hb dWo_recognise_35 hl (by decide) rfl (fun ls hl => ?_)
        by_cases k0 : kk = 0
        · refine lv_aload_n hx hb dWo_recognise_37 rfl (lv_at hl 1 rfl) ?_
          refine va_get (D := (dC, dI)) (ci := 5) (v := .int (J 6 x)) (C := RWo) (T := TWo) (N := 5) hx hb hts inWo hown hK hP (29 + x) (wd_wo hx9) rfl 2 (by decide) (hts _ tw_164) (fun _ h9 => h9) rfl dWo_recognise_38 ?_
          refine rw_i (y := (-1)) (hJx.trans (by rw [k0]; rfl)) ?_
          refine lv_iconst (v := (-1)) hx hb dWo_recognise_41 (by decide +kernel) ?_
          refine lv_icmp_eq (tgt := 55) hx hb dWo_recognise_42 (by decide) (fun c42 => ?_) (fun c42 => ?_)
          · refine lv_aload_n hx hb dWo_recognise_55 rfl (lv_at hl 1 rfl) ?_
            refine lv_iload hx hb dWo_recognise_56 (lv_at hl 5 rfl) ?_
            refine va_put (D := (dC, dI)) (ci := 5) (fs := wo_f x b J E8) (v := .int (nI kk)) (ty := .int) (C := RWo) (T := TWo) (N := 5) hx hb hts inWo tyWo tyWo_ok nmWo hown hK hP hD hS (29 + x) (wd_wo hx9) rfl 2 (by decide) (hts _ tw_164) (fun _ h9 => h9) rfl (by decide +kernel) rfl rfl (Nat.le_of_ble_eq_true rfl) dWo_recognise_58 (fun H locs hP hD hS => ?_)
            rw [wd_pw2 hx9] at hP hD
            obtain ⟨I3, eI3⟩ : ∃ z, z = ui J 6 x (nI kk) := ⟨_, rfl⟩
            rw [← eI3] at hP hD
            refine lv_aload_n hx hb dWo_recognise_61 rfl (lv_at hl 1 rfl) ?_
            refine lv_dload hx hb dWo_recognise_62 (lv_at hl 0 rfl) ?_
            refine va_put (D := (dC, dI)) (ci := 5) (fs := wo_f x b I3 E8) (v := .double (W9 kk)) (ty := .double) (C := RWo) (T := TWo) (N := 5) hx hb hts inWo tyWo tyWo_ok nmWo hown hK hP hD hS (29 + x) (wd_wo hx9) rfl 4 (by decide) (hts _ tw_168) (fun _ h9 => h9) rfl (by decide +kernel) rfl rfl (Nat.le_of_ble_eq_true rfl) dWo_recognise_64 (fun H locs hP hD hS => ?_)
            rw [wd_pw4 hx9] at hP hD
            obtain ⟨D4, eD4⟩ : ∃ z, z = ud E8 9 x (W9 kk) := ⟨_, rfl⟩
            rw [← eD4] at hP hD
            refine lv_iinc (v := nI (kk + 1)) (lv' := [(5, .int (nI (kk + 1))), (6, .double (W9 kk)), (0, .ref (b (29 + x))), (1, .ref (b 7)), (2, .ref (b 12)), (3, .double lm)]) hx hb dWo_recognise_67 hl (k := 5) rfl (nI_1 _) (by decide) rfl (fun ls hl => ?_)
            refine lv_goto (tgt := 3) hx hb dWo_recognise_70 (by decide) ?_
            have hrp := hr_pos (W := W9) (k := kk) (Or.inl k0)
            have a1 : ∀ c, c ≠ 6 → I3 c = I c := fun c z6 => by rw [eI3, ui_o _ _ _ z6]; exact hJ c z6
            have a2 : ∀ z, z ≠ x → I3 6 z = I 6 z := fun z zn => by rw [eI3, ui_n _ _ _ zn]; exact hJz z zn
            have a3 : I3 6 x = hr_n W9 (kk + 1) := by rw [eI3, ui_s]; unfold hr_n; rw [if_neg (by omega), hrp]
            have b1 : ∀ c, c ≠ 8 → c ≠ 9 → D4 c = D c := fun c z8 z9 => by rw [eD4, ud_o _ _ _ z9, eE8, us_o _ _ z8]; exact hE9 c z8 z9
            have b2 : ∀ z, z ≠ x → D4 9 z = D 9 z := fun z zn => by rw [eD4, ud_n _ _ _ zn, eE8, us_o _ _ (by decide)]; exact hEz z zn
            have b3 : D4 9 x = (hr_p W9 (kk + 1)).2 := by rw [eD4, ud_s, hrp]
            exact ih3 (kk + 1) I3 D4 (by omega) (by omega) a1 a2 a3 b1 b2 b3 _ _ hP hD hS ls (lv_sub hl [2, 3, 4, 5, 0] rfl)
          · exact absurd rfl c42
        · have hlt := hr_lt W9 kk (by omega)
          refine lv_aload_n hx hb dWo_recognise_37 rfl (lv_at hl 1 rfl) ?_
          refine va_get (D := (dC, dI)) (ci := 5) (v := .int (J 6 x)) (C := RWo) (T := TWo) (N := 5) hx hb hts inWo hown hK hP (29 + x) (wd_wo hx9) rfl 2 (by decide) (hts _ tw_164) (fun _ h9 => h9) rfl dWo_recognise_38 ?_
          refine rw_i (y := nI ((hr_p W9 kk).1)) (hJx.trans (if_neg k0)) ?_
          refine lv_iconst (v := (-1)) hx hb dWo_recognise_41 (by decide +kernel) ?_
          refine lv_icmp_eq (tgt := 55) hx hb dWo_recognise_42 (by decide) (fun c42 => ?_) (fun c42 => ?_)
          · exact absurd c42 (rd_ne (by omega))
          · refine lv_dload hx hb dWo_recognise_45 (lv_at hl 0 rfl) ?_
            refine lv_aload_n hx hb dWo_recognise_47 rfl (lv_at hl 1 rfl) ?_
            refine va_get (D := (dC, dI)) (ci := 5) (v := .double (E8 9 x)) (C := RWo) (T := TWo) (N := 5) hx hb hts inWo hown hK hP (29 + x) (wd_wo hx9) rfl 4 (by decide) (hts _ tw_168) (fun _ h9 => h9) rfl dWo_recognise_48 ?_
            refine rw_d (y := (hr_p W9 kk).2) (by rw [eE8, us_o _ _ (by decide)]; exact hEx) ?_
            refine lv_dcmp hx hb dWo_recognise_51 ?_
            refine lv_if_ge (tgt := 67) hx hb dWo_recognise_52 (by decide) (fun c52 => ?_) (fun c52 => ?_)
            · have cl : ¬ FP.dcmp (W9 kk) (hr_p W9 kk).2 = some .lt := (fc_ge_g _).mp c52
              refine lv_iinc (v := nI (kk + 1)) (lv' := [(5, .int (nI (kk + 1))), (6, .double (W9 kk)), (0, .ref (b (29 + x))), (1, .ref (b 7)), (2, .ref (b 12)), (3, .double lm)]) hx hb dWo_recognise_67 hl (k := 5) rfl (nI_1 _) (by decide) rfl (fun ls hl => ?_)
              refine lv_goto (tgt := 3) hx hb dWo_recognise_70 (by decide) ?_
              have hrp := hr_neg (W := W9) (k := kk) (fun z => z.elim k0 cl)
              have a1 := hJ
              have a2 := hJz
              have a3 : J 6 x = hr_n W9 (kk + 1) := by rw [hJx]; unfold hr_n; rw [if_neg k0, if_neg (by omega), hrp]
              have b1 : ∀ c, c ≠ 8 → c ≠ 9 → E8 c = D c := fun c z8 z9 => by rw [eE8, us_o _ _ z8]; exact hE9 c z8 z9
              have b2 : ∀ z, z ≠ x → E8 9 z = D 9 z := fun z zn => by rw [eE8, us_o _ _ (by decide)]; exact hEz z zn
              have b3 : E8 9 x = (hr_p W9 (kk + 1)).2 := by rw [eE8, us_o _ _ (by decide), hEx, hrp]
              exact ih3 (kk + 1) J E8 (by omega) (by omega) a1 a2 a3 b1 b2 b3 _ _ hP hD hS ls (lv_sub hl [2, 3, 4, 5, 0] rfl)
            · have cl : FP.dcmp (W9 kk) (hr_p W9 kk).2 = some .lt := (fc_lt_g _).mp (Int32.not_le.mp c52)
              refine lv_aload_n hx hb dWo_recognise_55 rfl (lv_at hl 1 rfl) ?_
              refine lv_iload hx hb dWo_recognise_56 (lv_at hl 5 rfl) ?_
              refine va_put (D := (dC, dI)) (ci := 5) (fs := wo_f x b J E8) (v := .int (nI kk)) (ty := .int) (C := RWo) (T := TWo) (N := 5) hx hb hts inWo tyWo tyWo_ok nmWo hown hK hP hD hS (29 + x) (wd_wo hx9) rfl 2 (by decide) (hts _ tw_164) (fun _ h9 => h9) rfl (by decide +kernel) rfl rfl (Nat.le_of_ble_eq_true rfl) dWo_recognise_58 (fun H locs hP hD hS => ?_)
              rw [wd_pw2 hx9] at hP hD
              obtain ⟨I5, eI5⟩ : ∃ z, z = ui J 6 x (nI kk) := ⟨_, rfl⟩
              rw [← eI5] at hP hD
              refine lv_aload_n hx hb dWo_recognise_61 rfl (lv_at hl 1 rfl) ?_
              refine lv_dload hx hb dWo_recognise_62 (lv_at hl 0 rfl) ?_
              refine va_put (D := (dC, dI)) (ci := 5) (fs := wo_f x b I5 E8) (v := .double (W9 kk)) (ty := .double) (C := RWo) (T := TWo) (N := 5) hx hb hts inWo tyWo tyWo_ok nmWo hown hK hP hD hS (29 + x) (wd_wo hx9) rfl 4 (by decide) (hts _ tw_168) (fun _ h9 => h9) rfl (by decide +kernel) rfl rfl (Nat.le_of_ble_eq_true rfl) dWo_recognise_64 (fun H locs hP hD hS => ?_)
              rw [wd_pw4 hx9] at hP hD
              obtain ⟨D6, eD6⟩ : ∃ z, z = ud E8 9 x (W9 kk) := ⟨_, rfl⟩
              rw [← eD6] at hP hD
              refine lv_iinc (v := nI (kk + 1)) (lv' := [(5, .int (nI (kk + 1))), (6, .double (W9 kk)), (0, .ref (b (29 + x))), (1, .ref (b 7)), (2, .ref (b 12)), (3, .double lm)]) hx hb dWo_recognise_67 hl (k := 5) rfl (nI_1 _) (by decide) rfl (fun ls hl => ?_)
              refine lv_goto (tgt := 3) hx hb dWo_recognise_70 (by decide) ?_
              have hrp := hr_pos (W := W9) (k := kk) (Or.inr cl)
              have a1 : ∀ c, c ≠ 6 → I5 c = I c := fun c z6 => by rw [eI5, ui_o _ _ _ z6]; exact hJ c z6
              have a2 : ∀ z, z ≠ x → I5 6 z = I 6 z := fun z zn => by rw [eI5, ui_n _ _ _ zn]; exact hJz z zn
              have a3 : I5 6 x = hr_n W9 (kk + 1) := by rw [eI5, ui_s]; unfold hr_n; rw [if_neg (by omega), hrp]
              have b1 : ∀ c, c ≠ 8 → c ≠ 9 → D6 c = D c := fun c z8 z9 => by rw [eD6, ud_o _ _ _ z9, eE8, us_o _ _ z8]; exact hE9 c z8 z9
              have b2 : ∀ z, z ≠ x → D6 9 z = D 9 z := fun z zn => by rw [eD6, ud_n _ _ _ zn, eE8, us_o _ _ (by decide)]; exact hEz z zn
              have b3 : D6 9 x = (hr_p W9 (kk + 1)).2 := by rw [eD6, ud_s, hrp]
              exact ih3 (kk + 1) I5 D6 (by omega) (by omega) a1 a2 a3 b1 b2 b3 _ _ hP hD hS ls (lv_sub hl [2, 3, 4, 5, 0] rfl)
  exact L3 _ 0 I D (Nat.lt_succ_self _) (by omega) (fun c z6 => rfl) (fun z zn => rfl) w6 (fun c z8 z9 => rfl) (fun z zn => rfl) w9 _ _ hP hD hS ls (lv_sub hl [1, 2, 3, 4, 0] rfl)
