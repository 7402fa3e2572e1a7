set_option maxHeartbeats 4000000 in
set_option maxRecDepth 100000 in
theorem kDe_hear (l : Launch) (hln : l.stackTraces = false) (dC : Nat → ClassId) (dI : Nat → Nat → Nat) (k : Nat → ClassId) (b P : Nat → Nat) (I : Nat → Nat → Int32) (D : Nat → Nat → UInt64) (sz : Nat) (ns : Nat) (hn : ns ≤ 320) (h4 : I 0 4 = nI ns) (hsm : ∀ i, i < ns → fb_ 1057 (D 1 i)) (hc : ∀ j, j < 32 → D 5 j = hd_C j) (hsn : ∀ j, j < 32 → D 6 j = hd_S j) (hwi : ∀ j, j < 32 → D 7 j = hd_W j) (jd9 : Nat) (hjd : jd9 ≤ hd_nf ns) (h5 : I 0 5 = nI jd9) (hj3 : ∀ q, q < 4 * jd9 → D 3 q = hw_su (D 1) q) (hj4 : ∀ q, q < 4 * jd9 → D 4 q = hw_lv (D 1) 0 q) (np : Nat) (rw9 : Nat → Nat) (hnp : np ≤ 6) (h6 : I 0 6 = nI np) (hp6 : ∀ j, j < 6 → P j < 6) (hr9 : ∀ j, j < np → I 3 (P j) = nI (rw9 j) ∧ 1 ≤ rw9 j ∧ rw9 j ≤ 8) (hl9 : ∀ j, j < np → ∀ q, q < 4 * rw9 j → fb_ 1155 (D (10 + P j) q)) (gp : Nat) (hg1 : 1 ≤ gp) (hg4 : gp ≤ 4) (h2 : I 0 2 = nI gp) : ex_Met l yDe_hear wDe_hear ({ frames := 6, cells := 1, slots := 6, locals := 102 }) (va_Pc [.ref (b 0)] (ct_pre (dC, dI) (de_ty k) ev_D (wd k b P I D) sz)) (va_Qi (fun r (u : (Nat → Nat → Int32) × (Nat → Nat → UInt64)) => 0 < hd_nf ns ∧ ∃ L, L = hs_w (D 1) (D 0 0) (hd_nf ns) gp 20 0 ∧ L.length ≤ 19 ∧ r = nI L.length ∧ u.1 0 7 = nI L.length ∧ ((∀ z, z ≠ 5 → z ≠ 7 → u.1 0 z = I 0 z) ∧ (∀ c, c ≠ 0 → c < 4 → u.1 c = I c) ∧ (∀ c, c ≠ 2 → c ≠ 3 → c ≠ 4 → c ≠ 8 → c ≠ 9 → u.2 c = D c) ∧ u.1 0 5 = nI (hd_nf ns) ∧ (∀ q, q < 4 * hd_nf ns → u.2 3 q = hw_su (D 1) q) ∧ (∀ q, q < 4 * hd_nf ns → u.2 4 q = hw_lv (D 1) 0 q)) ∧ ∀ z9 f9 m9, L[z9]? = some (f9, m9) → u.1 4 z9 = nI f9 ∧ u.1 5 z9 = nI m9 ∧ u.1 6 z9 = hr_n (fun k9 => hw_wa (hw_lv (D 1) f9) (D (10 + P k9)) m9 (rw9 k9)) np ∧ u.1 7 z9 = hr_l (fun k9 => hw_wa (hw_lv (D 1) f9) (D (10 + P k9)) m9 (rw9 k9)) (fun k9 => I 2 (P k9)) (D 0 1) np ∧ u.2 9 z9 = (hr_p (fun k9 => hw_wa (hw_lv (D 1) f9) (D (10 + P k9)) m9 (rw9 k9)) np).2 ∧ f9 + m9 ≤ hd_nf ns ∧ 1 ≤ m9) (fun u t => ct_at (dC, dI) (va_A (wd k b P I D) sz) ((fun u => wd k b P u.1 u.2) u) t) (va_A (wd k b P I D) sz)) (ct_X (dC, dI) (va_A (wd k b P I D) sz) (fun E (u : (Nat → Nat → Int32) × (Nat → Nat → UInt64)) => u = (I, D) ∧ E = th_IS ∧ hd_nf ns = 0) (fun u => wd k b P u.1 u.2)) 1 6 (va_A (wd k b P I D) sz) := by
  refine ex_met (cc := cDe_hear) (maxL := 2) (ret := (some .int)) (by decide) rfl ?_
  intro p e s m args below meth c s₁ B hml htab hv
  obtain ⟨rfl, hsz, hP, hK, hD0, hE⟩ := hv
  have hx := B.exec
  have hb := B.bytes
  have hr := B.returns
  have hts : ∀ w ∈ W0, w.before [.ref (b 0)].toArray s = true := fun w h => atoms_spec (ws := wDe_hear) B.pre w (List.mem_cons_of_mem _ h)
  have hown : s.vm.findClass RDe = some m.cls := findClass_of_methodNamed B.named
  have hlocks := B.notSynchronized
  subst hsz
  have hP0 := hP
  have hD := hD0.self (sz := s.heap.size)
  generalize hAe : va_A (wd k b P I D) s.heap.size = A at hD ⊢
  have hA : ∀ q : Nat, s.heap.size ≤ q → A q := fun q h => by rw [← hAe]; exact Or.inr h
  have hS : va_S A s.heap s.heap [] := va_S.rf
  have hl := lv_entry ([.ref (b 0)]) (n := 2) (Nat.le_of_ble_eq_true rfl)
  rw [lg_entry_eq]
  generalize (lg_sl ([.ref (b 0)]) ++ List.replicate (2 - (lg_sl ([.ref (b 0)])).length) Slot.unset).toArray = ls at hl ⊢
  have hl : lv_has ls 2 [(0, .ref (b 0))] := hl
  refine lp_q (fun Q9 hQ9 => ?_)
  have hnf := nf_le hn
  refine lv_aload_n hx hb dDe_hear_0 rfl (lv_at hl 0 rfl) ?_
  refine va_get (D := (dC, dI)) (ci := 7) (v := .ref (b 7)) (C := RDe) (T := TDe) (N := 10) hx hb hts inDe hown hK hP 0 rfl rfl 2 (by decide) (hts _ tw_194) (fun _ h9 => h9) rfl dDe_hear_1 ?_
  refine ct_i (va_runV (As := []) (rest := []) ⟨hx, hb, hml, hown, hts⟩ (kSo_frames l dC dI k b P I D _ ns hn h4) (cwV 0 hts (gw_V tw_446 tw_447 tw_448 tw_4 tw_449) rfl rfl rfl (by decide +kernel) ⟨Nat.le_of_ble_eq_true rfl, Nat.le_of_ble_eq_true rfl⟩) ⟨ct_blind (ev := (fun _ => True)) (fun _ _ _ _ h => h), va_recv hK hP (ci := 3) (q0 := 7) rfl rfl, ct_now (ev := (fun _ => True)) (fun _ _ _ => trivial) hP hK hD⟩ rfl rfl hl.1 rfl (lv_room (Nat.le_of_ble_eq_true rfl)) dDe_hear_4 ⟨Nat.le_of_ble_eq_true rfl, Nat.le_of_ble_eq_true rfl⟩) hD hS hA (fun r1 u1 H locs hw1 hP hD hS => ?_)
  subst hw1
  have hnf := nf_le hn
  refine lv_if_ne (tgt := 20) hx hb dDe_hear_7 (by decide) (fun c7 => ?_) (fun c7 => ?_)
  · have c7 : ¬ (hd_nf ns) = 0 := fun q9 => c7 (show nI (hd_nf ns) = nI 0 from (nI_eq (a := (hd_nf ns)) (b := 0) (by omega) (by omega)).mpr q9)
    refine lv_aload_n hx hb dDe_hear_20 rfl (lv_at hl 0 rfl) ?_
    refine va_get (D := (dC, dI)) (ci := 7) (v := .ref (b 7)) (C := RDe) (T := TDe) (N := 10) hx hb hts inDe hown hK hP 0 rfl rfl 2 (by decide) (hts _ tw_194) (fun _ h9 => h9) rfl dDe_hear_21 ?_
    refine ct_v (va_runV (As := []) (rest := []) ⟨hx, hb, hml, hown, hts⟩ (kSo_judge l dC dI k b P I D _ ns hn h4 hsm hc hsn hwi jd9 hjd h5 hj3 hj4) (cwV 0 hts (gw_V tw_469 tw_470 tw_471 tw_4 tw_472) rfl rfl rfl (by decide +kernel) ⟨Nat.le_of_ble_eq_true rfl, Nat.le_of_ble_eq_true rfl⟩) ⟨ct_blind (ev := ev_N) ev_N.blind, va_recv hK hP (ci := 3) (q0 := 7) rfl rfl, ct_now (ev := ev_N) (fun U _ hW => hE.1.warm hW) hP hK hD⟩ rfl rfl hl.1 rfl (lv_room (Nat.le_of_ble_eq_true rfl)) dDe_hear_24 ⟨Nat.le_of_ble_eq_true rfl, Nat.le_of_ble_eq_true rfl⟩) hD hS hA (fun u2 H locs hw2 hP hD hS => ?_)
    obtain ⟨hE1, hE3, hE4⟩ := hw2
    obtain ⟨I9, eI9⟩ : ∃ z, z = ui I 0 5 (nI (hd_nf ns)) := ⟨_, rfl⟩
    rw [← eI9] at hP hD
    refine lv_aload_n hx hb dDe_hear_27 rfl (lv_at hl 0 rfl) ?_
    refine va_get (D := (dC, dI)) (ci := 7) (v := .ref (b 15)) (C := RDe) (T := TDe) (N := 10) hx hb hts inDe hown hK hP 0 rfl rfl 4 (by decide) (hts _ tw_196) (fun _ h9 => h9) rfl dDe_hear_28 ?_
    refine lv_aload_n hx hb dDe_hear_31 rfl (lv_at hl 0 rfl) ?_
    refine va_get (D := (dC, dI)) (ci := 7) (v := .ref (b 7)) (C := RDe) (T := TDe) (N := 10) hx hb hts inDe hown hK hP 0 rfl rfl 2 (by decide) (hts _ tw_194) (fun _ h9 => h9) rfl dDe_hear_32 ?_
    refine lv_aload_n hx hb dDe_hear_35 rfl (lv_at hl 0 rfl) ?_
    refine va_get (D := (dC, dI)) (ci := 7) (v := .double (u2 0 0)) (C := RDe) (T := TDe) (N := 10) hx hb hts inDe hown hK hP 0 rfl rfl 7 (by decide) (hts _ tw_199) (fun _ h9 => h9) rfl dDe_hear_36 ?_
    refine rw_d (y := D 0 0) (by rw [hE1 0 (by decide) (by decide) (by decide)]) ?_
    refine lv_aload_n hx hb dDe_hear_39 rfl (lv_at hl 0 rfl) ?_
    refine va_get (D := (dC, dI)) (ci := 7) (v := .int (I9 0 2)) (C := RDe) (T := TDe) (N := 10) hx hb hts inDe hown hK hP 0 rfl rfl 8 (by decide) (hts _ tw_200) (fun _ h9 => h9) rfl dDe_hear_40 ?_
    refine rw_i (y := I 0 2) (by rw [eI9, ui_n _ _ _ (by decide)]) ?_
    refine rw_i (y := nI gp) h2 ?_
    refine ct_v (va_runV (As := [.ref (b 7), .double (D 0 0), .int (nI gp)]) (rest := []) ⟨hx, hb, hml, hown, hts⟩ (kLi_cutOut l dC dI k b P I9 u2 _ ns hn (by rw [eI9, ui_n _ _ _ (by decide)]; exact h4) (fun i hi => by rw [hE1 1 (by decide) (by decide) (by decide)]; exact hsm i hi) (D 0 0) gp hg1 hg4 (fun q hq => by rw [hE1 1 (by decide) (by decide) (by decide)]; exact hE3 q hq)) (cwV 3 hts (gw_V tw_585 tw_586 tw_587 tw_7 tw_588) rfl rfl rfl (by decide +kernel) ⟨Nat.le_of_ble_eq_true rfl, Nat.le_of_ble_eq_true rfl⟩) ⟨ct_blind (ev := ev_N) ev_N.blind, va_recv hK hP (ci := 6) (q0 := 15) rfl rfl, ct_now (ev := ev_N) (fun U _ hW => hE.1.warm hW) hP hK hD⟩ rfl rfl hl.1 rfl (lv_room (Nat.le_of_ble_eq_true rfl)) dDe_hear_43 ⟨Nat.le_of_ble_eq_true rfl, Nat.le_of_ble_eq_true rfl⟩) hD hS hA (fun u3 H locs hw3 hP hD hS => ?_)
    rw [hE1 1 (by decide) (by decide) (by decide)] at hw3
    obtain ⟨L, l1, l2, l3, l4, l5, l6, l7⟩ := hw3
    refine lv_iconst (v := nI 0) hx hb dDe_hear_46 (by decide +kernel) ?_
    refine lv_istore_n (lv' := [(1, .int (nI 0)), (0, .ref (b 0))]) hx hb dDe_hear_47 rfl hl (by decide) rfl (fun ls hl => ?_)
    have m2 : ∀ z, z ≠ 5 → z ≠ 7 → u3.1 0 z = I 0 z := fun z z5 z7 => by rw [l4 z z7, eI9, ui_n _ _ _ z5]
    have m3 : ∀ c, c ≠ 0 → c < 4 → u3.1 c = I c := fun c z0 z4 => by rw [l5 c z0 (by omega) (by omega) (by omega) (by omega), eI9, ui_o _ _ _ z0]
    have m4 : ∀ c, c ≠ 2 → c ≠ 3 → c ≠ 4 → c ≠ 8 → c ≠ 9 → u3.2 c = D c := fun c z2 z3 z4 z8 z9 => (l6 c z9).trans (hE1 c z2 z3 z4)
    have m5 : u3.1 0 5 = nI (hd_nf ns) := by rw [l4 5 (by decide), eI9, ui_s]
    have m6 : ∀ q, q < 4 * hd_nf ns → u3.2 3 q = hw_su (D 1) q := fun q hq => by rw [l6 3 (by decide)]; exact hE3 q hq
    have m7 : ∀ q, q < 4 * hd_nf ns → u3.2 4 q = hw_lv (D 1) 0 q := fun q hq => by rw [l6 4 (by decide)]; exact hE4 q hq
    have L48 : ∀ (n48 : Nat) (kk : Nat) (J : Nat → Nat → Int32) (E : Nat → Nat → UInt64), L.length - kk < n48 → kk ≤ L.length → J 0 7 = nI L.length → (∀ z, z ≠ 5 → z ≠ 7 → J 0 z = I 0 z) → (∀ c, c ≠ 0 → c < 4 → J c = I c) → (∀ c, c ≠ 2 → c ≠ 3 → c ≠ 4 → c ≠ 8 → c ≠ 9 → E c = D c) → J 0 5 = nI (hd_nf ns) → (∀ q, q < 4 * hd_nf ns → E 3 q = hw_su (D 1) q) → (∀ q, q < 4 * hd_nf ns → E 4 q = hw_lv (D 1) 0 q) → (∀ z9 f9 m9, L[z9]? = some (f9, m9) → kk ≤ z9 → wk_0 J E (hd_nf ns) z9 f9 m9) → (∀ z9 f9 m9, L[z9]? = some (f9, m9) → z9 < kk → J 4 z9 = nI f9 ∧ J 5 z9 = nI m9 ∧ J 6 z9 = hr_n (fun k9 => hw_wa (hw_lv (D 1) f9) (D (10 + P k9)) m9 (rw9 k9)) np ∧ J 7 z9 = hr_l (fun k9 => hw_wa (hw_lv (D 1) f9) (D (10 + P k9)) m9 (rw9 k9)) (fun k9 => I 2 (P k9)) (D 0 1) np ∧ E 9 z9 = (hr_p (fun k9 => hw_wa (hw_lv (D 1) f9) (D (10 + P k9)) m9 (rw9 k9)) np).2 ∧ f9 + m9 ≤ hd_nf ns ∧ 1 ≤ m9) → ∀ (H : Heap) (locs : List Loc), va_P (dC, dI) vwCl (wd k b P J E) H → va_D A (wd k b P J E) → va_S A s.heap H locs → ∀ ls : Array Slot, lv_has ls 2 [(0, .ref (b 0)), (1, .int (nI kk))] → W p l e (headSpec wDe_hear ({ frames := 6, cells := 1, slots := 6, locals := 102 })).room s m [.ref (b 0)].toArray below meth c H locs 0 0 Q9 (F0 m 48 ls []) := by
      intro n48
      induction n48 with
      | zero => intro kk J E hm; exact absurd hm (Nat.not_lt_zero _)
      | succ n48 ih48 =>
        intro kk J E hm48 hkk hJ7 hJ0 hJ hE9 hJ5 hE3 hE4 hWn hWd H locs hP hD hS ls hl
        refine lv_iload_n hx hb dDe_hear_48 rfl (lv_at hl 1 rfl) ?_
        refine lv_aload_n hx hb dDe_hear_49 rfl (lv_at hl 0 rfl) ?_
        refine va_get (D := (dC, dI)) (ci := 7) (v := .ref (b 15)) (C := RDe) (T := TDe) (N := 10) hx hb hts inDe hown hK hP 0 rfl rfl 4 (by decide) (hts _ tw_196) (fun _ h9 => h9) rfl dDe_hear_50 ?_
        refine va_getN (D := (dC, dI)) (ci := 6) (v := .int (J 0 7)) (C := RLi) (T := TLi) (N := 2) hx hb hts inLi hown hK hP 15 rfl rfl 1 (by decide) (va_Nw.use rfl (hE.1 _ en_184)) (fun _ h9 => h9) rfl dDe_hear_53 ?_
        refine rw_i (y := nI L.length) hJ7 ?_
        refine lv_icmp_ge (tgt := 89) hx hb dDe_hear_56 (by decide) (fun c56 => ?_) (fun c56 => ?_)
        · have c56 : L.length ≤ kk := (nI_leI (a := L.length) (b := kk) (by omega) (by omega)).mp (show nI L.length ≤ nI kk from c56)
          refine lv_aload_n hx hb dDe_hear_89 rfl (lv_at hl 0 rfl) ?_
          refine va_get (D := (dC, dI)) (ci := 7) (v := .ref (b 15)) (C := RDe) (T := TDe) (N := 10) hx hb hts inDe hown hK hP 0 rfl rfl 4 (by decide) (hts _ tw_196) (fun _ h9 => h9) rfl dDe_hear_90 ?_
          refine va_getN (D := (dC, dI)) (ci := 6) (v := .int (J 0 7)) (C := RLi) (T := TLi) (N := 2) hx hb hts inLi hown hK hP 15 rfl rfl 1 (by decide) (va_Nw.use rfl (hE.1 _ en_184)) (fun _ h9 => h9) rfl dDe_hear_93 ?_
          refine rw_i (y := nI L.length) hJ7 ?_
          rw [hQ9]
          exact ex_ret (ct_ri hx hb hr hlocks (J, E) (⟨by omega, L, l1, l2, rfl, hJ7, ⟨hJ0, hJ, hE9, hJ5, hE3, hE4⟩, fun z9 f9 m9 h => hWd z9 f9 m9 h (by have := la_lt h; omega)⟩) hP hD hS (Nat.zero_le _) (Nat.zero_le _) dDe_hear_96)
        · have c56 : ¬ L.length ≤ kk := fun q9 => c56 (show nI L.length ≤ nI kk from (nI_leI (a := L.length) (b := kk) (by omega) (by omega)).mpr q9)
          refine lv_aload_n hx hb dDe_hear_59 rfl (lv_at hl 0 rfl) ?_
          refine va_get (D := (dC, dI)) (ci := 7) (v := .ref (b 15)) (C := RDe) (T := TDe) (N := 10) hx hb hts inDe hown hK hP 0 rfl rfl 4 (by decide) (hts _ tw_196) (fun _ h9 => h9) rfl dDe_hear_60 ?_
          refine va_getN (D := (dC, dI)) (ci := 6) (v := .ref (b 16)) (C := RLi) (T := TLi) (N := 2) hx hb hts inLi hown hK hP 15 rfl rfl 0 (by decide) (va_Nw.use rfl (hE.1 _ en_182)) (fun _ h9 => h9) rfl dDe_hear_63 ?_
          refine lv_iload_n hx hb dDe_hear_66 rfl (lv_at hl 1 rfl) ?_
          refine rw_ald_q (x := b (29 + kk)) hx hb hK hP 16 3 rfl rfl (if_pos (by omega)) (by omega) (by decide) dDe_hear_67 ?_
          refine lv_aload_n hx hb dDe_hear_68 rfl (lv_at hl 0 rfl) ?_
          refine va_get (D := (dC, dI)) (ci := 7) (v := .ref (b 7)) (C := RDe) (T := TDe) (N := 10) hx hb hts inDe hown hK hP 0 rfl rfl 2 (by decide) (hts _ tw_194) (fun _ h9 => h9) rfl dDe_hear_69 ?_
          refine lv_aload_n hx hb dDe_hear_72 rfl (lv_at hl 0 rfl) ?_
          refine va_get (D := (dC, dI)) (ci := 7) (v := .ref (b 12)) (C := RDe) (T := TDe) (N := 10) hx hb hts inDe hown hK hP 0 rfl rfl 3 (by decide) (hts _ tw_195) (fun _ h9 => h9) rfl dDe_hear_73 ?_
          refine lv_aload_n hx hb dDe_hear_76 rfl (lv_at hl 0 rfl) ?_
          refine va_get (D := (dC, dI)) (ci := 7) (v := .double (E 0 1)) (C := RDe) (T := TDe) (N := 10) hx hb hts inDe hown hK hP 0 rfl rfl 9 (by decide) (hts _ tw_201) (fun _ h9 => h9) rfl dDe_hear_77 ?_
          refine rw_d (y := D 0 1) (hE9 0 (by decide) (by decide) (by decide) (by decide) (by decide) ▸ rfl) ?_
          obtain ⟨f, m9, hLk⟩ : ∃ f m9, L[kk]? = some (f, m9) := ⟨_, _, List.getElem?_eq_getElem (show kk < L.length by omega)⟩
          obtain ⟨v1, v2, v3, v4, v5, v6, v7, v8⟩ := hWn kk f m9 hLk (Nat.le_refl kk)
          refine ct_v (va_runV (As := [.ref (b 7), .ref (b 12), .double (D 0 1)]) (rest := []) ⟨hx, hb, hml, hown, hts⟩ (kWo_recognise l dC dI k b P J E _ kk f m9 ns (D 0 1) (D 1) (by omega) hn hsm v1 v2 v3 v4 v5 v6 v7 v8 hE4 np rw9 hnp (by rw [hJ0 6 (by decide) (by decide)]; exact h6) hp6 (fun j hj => by rw [hJ 3 (by decide) (by decide)]; exact hr9 j hj) (fun j hj q hq => by rw [hE9 _ (by omega) (by omega) (by omega) (by omega) (by omega)]; exact hl9 j hj q hq)) (cwV 3 hts (gw_V tw_599 tw_600 tw_601 tw_8 tw_602) rfl rfl rfl (by decide +kernel) ⟨Nat.le_of_ble_eq_true rfl, Nat.le_of_ble_eq_true rfl⟩) ⟨ct_blind (ev := ev_N) ev_N.blind, va_recv hK hP (ci := 5) (q0 := 29 + kk) rfl (wd_wo (by omega)), ct_now (ev := ev_N) (fun U _ hW => hE.1.warm hW) hP hK hD⟩ rfl rfl hl.1 rfl (lv_room (Nat.le_of_ble_eq_true rfl)) dDe_hear_80 ⟨Nat.le_of_ble_eq_true rfl, Nat.le_of_ble_eq_true rfl⟩) hD hS hA (fun u4 H locs hw4 hP hD hS => ?_)
          have hWW : (fun k9 => hw_wa (hw_lv (D 1) f) (E (10 + P k9)) m9 (rw9 k9)) = fun k9 => hw_wa (hw_lv (D 1) f) (D (10 + P k9)) m9 (rw9 k9) := funext (fun k9 => by rw [hE9 _ (by omega) (by omega) (by omega) (by omega) (by omega)])
          rw [hWW, hJ 2 (by decide) (by decide)] at hw4
          obtain ⟨p1, p2, p3, p4, p5, p6, p7⟩ := hw4
          refine lv_iinc (v := nI (kk + 1)) (lv' := [(1, .int (nI (kk + 1))), (0, .ref (b 0))]) hx hb dDe_hear_83 hl (k := 1) rfl (nI_1 _) (by decide) rfl (fun ls hl => ?_)
          refine lv_goto (tgt := 48) hx hb dDe_hear_86 (by decide) ?_
          have n1 : u4.1 0 7 = nI L.length := by rw [p4 0 (by decide) (by decide)]; exact hJ7
          have n2 : ∀ z, z ≠ 5 → z ≠ 7 → u4.1 0 z = I 0 z := fun z z5 z7 => by rw [p4 0 (by decide) (by decide)]; exact hJ0 z z5 z7
          have n3 : ∀ c, c ≠ 0 → c < 4 → u4.1 c = I c := fun c z0 z4 => (p4 c (by omega) (by omega)).trans (hJ c z0 z4)
          have n4 : ∀ c, c ≠ 2 → c ≠ 3 → c ≠ 4 → c ≠ 8 → c ≠ 9 → u4.2 c = D c := fun c z2 z3 z4 z8 z9 => (p6 c z8 z9).trans (hE9 c z2 z3 z4 z8 z9)
          have n5 : u4.1 0 5 = nI (hd_nf ns) := by rw [p4 0 (by decide) (by decide)]; exact hJ5
          have n6 : ∀ q, q < 4 * hd_nf ns → u4.2 3 q = hw_su (D 1) q := fun q hq => by rw [p6 3 (by decide) (by decide)]; exact hE3 q hq
          have n7 : ∀ q, q < 4 * hd_nf ns → u4.2 4 q = hw_lv (D 1) 0 q := fun q hq => by rw [p6 4 (by decide) (by decide)]; exact hE4 q hq
          have n8 : ∀ z9 f9 m9, L[z9]? = some (f9, m9) → kk + 1 ≤ z9 → wk_0 u4.1 u4.2 (hd_nf ns) z9 f9 m9 := fun z9 f9 m8 h hz => by
            obtain ⟨o1, o2, o3, o4, o5, o6⟩ := hWn z9 f9 m8 h (by omega)
            have zn : z9 ≠ kk := by omega
            exact ⟨(p5 4 z9 zn).trans o1, (p5 5 z9 zn).trans o2, (p5 6 z9 zn).trans o3, (p5 7 z9 zn).trans o4, (p7 z9 zn).trans o5, o6⟩
          have n9 : ∀ z9 f9 m9, L[z9]? = some (f9, m9) → z9 < kk + 1 → u4.1 4 z9 = nI f9 ∧ u4.1 5 z9 = nI m9 ∧ u4.1 6 z9 = hr_n (fun k9 => hw_wa (hw_lv (D 1) f9) (D (10 + P k9)) m9 (rw9 k9)) np ∧ u4.1 7 z9 = hr_l (fun k9 => hw_wa (hw_lv (D 1) f9) (D (10 + P k9)) m9 (rw9 k9)) (fun k9 => I 2 (P k9)) (D 0 1) np ∧ u4.2 9 z9 = (hr_p (fun k9 => hw_wa (hw_lv (D 1) f9) (D (10 + P k9)) m9 (rw9 k9)) np).2 ∧ f9 + m9 ≤ hd_nf ns ∧ 1 ≤ m9 := fun z9 f9 m8 h hz => by
            by_cases zn : z9 = kk
            · subst zn
              rw [hLk] at h
              cases h
              exact ⟨by rw [p4 4 (by decide) (by decide)]; exact v1, by rw [p4 5 (by decide) (by decide)]; exact v2, p1, p2, p3, v6, v7⟩
            · obtain ⟨o1, o2, o3, o4, o5, o6⟩ := hWd z9 f9 m8 h (by omega)
              exact ⟨(p5 4 z9 zn).trans o1, (p5 5 z9 zn).trans o2, (p5 6 z9 zn).trans o3, (p5 7 z9 zn).trans o4, (p7 z9 zn).trans o5, o6⟩
          exact ih48 (kk + 1) u4.1 u4.2 (by omega) (by omega) n1 n2 n3 n4 n5 n6 n7 n8 n9 _ _ hP hD hS ls (lv_sub hl [1, 0] rfl)
    exact L48 _ 0 u3.1 u3.2 (Nat.lt_succ_self _) (by omega) l3 m2 m3 m4 m5 m6 m7 (fun z9 f9 m9 h _ => l7 z9 f9 m9 h) (fun z9 f9 m9 h hz => absurd hz (Nat.not_lt_zero _)) _ _ hP hD hS ls (lv_sub hl [1, 0] rfl)
  · have c7 : (hd_nf ns) = 0 := (nI_eq (a := (hd_nf ns)) (b := 0) (by omega) (by omega)).mp (show nI (hd_nf ns) = nI 0 from c7)
    rw [hQ9]
    exact th_throw hx hb hln (cls := th_IS) (text := "there is no frame") hown hP0 hAe hts hE.2 (by decide +kernel) t3_185_187 th_IS_w (hl.1.trans hml.symm) htab dDe_hear_10 dDe_hear_13 dDe_hear_14 dDe_hear_16 dDe_hear_19 hlocks (I, D) (⟨rfl, rfl, c7⟩) hP hD hS (Nat.le_of_ble_eq_true rfl) (Nat.le_of_ble_eq_true rfl) (Nat.le_of_ble_eq_true rfl) (Nat.le_of_ble_eq_true rfl) (Nat.le_refl _) (Nat.le_refl _)
set_option maxHeartbeats 4000000 in
set_option maxRecDepth 100000 in
theorem kDe_milliseconds (l : Launch) (dC : Nat → ClassId) (dI : Nat → Nat → Nat) (k : Nat → ClassId) (b P : Nat → Nat) (I : Nat → Nat → Int32) (D : Nat → Nat → UInt64) (sz : Nat) (v9 : Int32) (hr0 : I 0 0 ≠ 0) : Met l yDe_milliseconds wDe_milliseconds ({ frames := 0, cells := 0, slots := 0, locals := 0 }) (va_Pc [.ref (b 0), .int v9] (ct_pre (dC, dI) (de_ty k) (fun _ => True) (wd k b P I D) sz)) (va_Qi (fun r (_ : Unit) => r = v9 * nI 1000 / I 0 0) (fun u t => ct_at (dC, dI) (va_A (wd k b P I D) sz) ((fun _ => wd k b P I D) u) t) (va_A (wd k b P I D) sz)) 0 0 (va_A (wd k b P I D) sz) := by
  refine Met.ofW (cc := cDe_milliseconds) (maxL := 2) (ret := (some .int)) (by decide) rfl ?_
  intro p e s m args below meth c s₁ B hml hv
  obtain ⟨rfl, hsz, hP, hK, hD0, hE⟩ := hv
  have hx := B.exec
  have hb := B.bytes
  have hr := B.returns
  have hts : ∀ w ∈ W0, w.before [.ref (b 0), .int v9].toArray s = true := fun w h => atoms_spec (ws := wDe_milliseconds) B.pre w (List.mem_cons_of_mem _ h)
  have hown : s.vm.findClass RDe = some m.cls := findClass_of_methodNamed B.named
  have hlocks := B.notSynchronized
  subst hsz
  have hP0 := hP
  have hD := hD0.self (sz := s.heap.size)
  generalize hAe : va_A (wd k b P I D) s.heap.size = A at hD ⊢
  have hA : ∀ q : Nat, s.heap.size ≤ q → A q := fun q h => by rw [← hAe]; exact Or.inr h
  have hS : va_S A s.heap s.heap [] := va_S.rf
  have hl := lv_entry ([.ref (b 0), .int v9]) (n := 2) (Nat.le_of_ble_eq_true rfl)
  rw [lg_entry_eq]
  generalize (lg_sl ([.ref (b 0), .int v9]) ++ List.replicate (2 - (lg_sl ([.ref (b 0), .int v9])).length) Slot.unset).toArray = ls at hl ⊢
  have hl : lv_has ls 2 [(0, .ref (b 0)), (1, .int v9)] := hl
  refine lv_iload_n hx hb dDe_milliseconds_0 rfl (lv_at hl 1 rfl) ?_
  refine lv_sipush (v := nI 1000) hx hb dDe_milliseconds_1 (by decide +kernel) ?_
  refine lv_imul hx hb dDe_milliseconds_4 ?_
  refine lv_aload_n hx hb dDe_milliseconds_5 rfl (lv_at hl 0 rfl) ?_
  refine va_get (D := (dC, dI)) (ci := 7) (v := .int (I 0 0)) (C := RDe) (T := TDe) (N := 10) hx hb hts inDe hown hK hP 0 rfl rfl 5 (by decide) (hts _ tw_197) (fun _ h9 => h9) rfl dDe_milliseconds_6 ?_
  refine lv_idiv hx hb dDe_milliseconds_9 (fun z => hr0 z) ?_
  exact ct_ri hx hb hr hlocks () rfl hP hD hS (Nat.le_refl _) (Nat.le_refl _) dDe_milliseconds_10
set_option maxHeartbeats 4000000 in
set_option maxRecDepth 100000 in
theorem kDe_word (l : Launch) (hln : l.stackTraces = false) (dC : Nat → ClassId) (dI : Nat → Nat → Nat) (k : Nat → ClassId) (b P : Nat → Nat) (I : Nat → Nat → Int32) (D : Nat → Nat → UInt64) (sz : Nat) (k9 wh : Int32) (nw : Nat) (hnw : nw ≤ 19) (h7 : I 0 7 = nI nw) (hr0 : I 0 0 ≠ 0) : ex_Met l yDe_word wDe_word ({ frames := 6, cells := 1, slots := 6, locals := 82 }) (va_Pc [.ref (b 0), .int k9, .int wh] (ct_pre (dC, dI) (de_ty k) ev_D (wd k b P I D) sz)) (va_Qi (fun r (u : Nat → Nat → Int32) => u = I ∧ ∃ j, j < nw ∧ k9 = nI j ∧ ∃ q, 0 ≤ q ∧ q ≤ 5 ∧ wh = nI q ∧ r = dk_wd I j q) (fun u t => ct_at (dC, dI) (va_A (wd k b P I D) sz) ((fun u => wd k b P u D) u) t) (va_A (wd k b P I D) sz)) (ct_X (dC, dI) (va_A (wd k b P I D) sz) (fun E (u : Nat → Nat → Int32) => u = I ∧ ((E = th_NS ∧ ¬ ∃ j, j < nw ∧ k9 = nI j) ∨ (E = th_IA ∧ (∃ j, j < nw ∧ k9 = nI j) ∧ ¬ ∃ q, 0 ≤ q ∧ q ≤ 5 ∧ wh = nI q))) (fun u => wd k b P u D)) 1 6 (va_A (wd k b P I D) sz) := by
  refine ex_met (cc := cDe_word) (maxL := 4) (ret := (some .int)) (by decide) rfl ?_
  intro p e s m args below meth c s₁ B hml htab hv
  obtain ⟨rfl, hsz, hP, hK, hD0, hE⟩ := hv
  have hx := B.exec
  have hb := B.bytes
  have hr := B.returns
  have hts : ∀ w ∈ W0, w.before [.ref (b 0), .int k9, .int wh].toArray s = true := fun w h => atoms_spec (ws := wDe_word) B.pre w (List.mem_cons_of_mem _ h)
  have hown : s.vm.findClass RDe = some m.cls := findClass_of_methodNamed B.named
  have hlocks := B.notSynchronized
  subst hsz
  have hP0 := hP
  have hD := hD0.self (sz := s.heap.size)
  generalize hAe : va_A (wd k b P I D) s.heap.size = A at hD ⊢
  have hA : ∀ q : Nat, s.heap.size ≤ q → A q := fun q h => by rw [← hAe]; exact Or.inr h
  have hS : va_S A s.heap s.heap [] := va_S.rf
  have hl := lv_entry ([.ref (b 0), .int k9, .int wh]) (n := 4) (Nat.le_of_ble_eq_true rfl)
  rw [lg_entry_eq]
  generalize (lg_sl ([.ref (b 0), .int k9, .int wh]) ++ List.replicate (4 - (lg_sl ([.ref (b 0), .int k9, .int wh])).length) Slot.unset).toArray = ls at hl ⊢
  have hl : lv_has ls 4 [(0, .ref (b 0)), (1, .int k9), (2, .int wh)] := hl
  refine lv_iload_n hx hb dDe_word_0 rfl (lv_at hl 1 rfl) ?_
  refine lv_if_lt (tgt := 15) hx hb dDe_word_1 (by decide) (fun c1 => ?_) (fun c1 => ?_)
  · exact th_throwN hx hb hln (text := "there is no such word") hown hP0 hAe hts hE.2 t3_162_205 (hl.1.trans hml.symm) htab dDe_word_15 dDe_word_18 dDe_word_19 dDe_word_21 dDe_word_24 hlocks I (⟨rfl, Or.inl ⟨rfl, by first | (exact dj_lo (by omega) c1) | (exact dj_hi (by omega) c12)⟩⟩) hP hD hS (Nat.le_of_ble_eq_true rfl) (Nat.le_of_ble_eq_true rfl) (Nat.le_of_ble_eq_true rfl) (Nat.le_of_ble_eq_true rfl) (Nat.le_refl _) (Nat.le_refl _)
  · refine lv_iload_n hx hb dDe_word_4 rfl (lv_at hl 1 rfl) ?_
    refine lv_aload_n hx hb dDe_word_5 rfl (lv_at hl 0 rfl) ?_
    refine va_get (D := (dC, dI)) (ci := 7) (v := .ref (b 15)) (C := RDe) (T := TDe) (N := 10) hx hb hts inDe hown hK hP 0 rfl rfl 4 (by decide) (hts _ tw_196) (fun _ h9 => h9) rfl dDe_word_6 ?_
    refine va_getN (D := (dC, dI)) (ci := 6) (v := .int (I 0 7)) (C := RLi) (T := TLi) (N := 2) hx hb hts inLi hown hK hP 15 rfl rfl 1 (by decide) (va_Nw.use rfl (hE.1 _ en_184)) (fun _ h9 => h9) rfl dDe_word_9 ?_
    refine rw_i (y := nI nw) h7 ?_
    refine lv_icmp_lt (tgt := 25) hx hb dDe_word_12 (by decide) (fun c12 => ?_) (fun c12 => ?_)
    · obtain ⟨j, hj, rfl⟩ := dj_in (by omega) c1 c12
      refine lv_aload_n hx hb dDe_word_25 rfl (lv_at hl 0 rfl) ?_
      refine va_get (D := (dC, dI)) (ci := 7) (v := .ref (b 15)) (C := RDe) (T := TDe) (N := 10) hx hb hts inDe hown hK hP 0 rfl rfl 4 (by decide) (hts _ tw_196) (fun _ h9 => h9) rfl dDe_word_26 ?_
      refine va_getN (D := (dC, dI)) (ci := 6) (v := .ref (b 16)) (C := RLi) (T := TLi) (N := 2) hx hb hts inLi hown hK hP 15 rfl rfl 0 (by decide) (va_Nw.use rfl (hE.1 _ en_182)) (fun _ h9 => h9) rfl dDe_word_29 ?_
      refine lv_iload_n hx hb dDe_word_32 rfl (lv_at hl 1 rfl) ?_
      refine rw_ald_q (x := b (29 + j)) hx hb hK hP 16 3 rfl rfl (if_pos (by omega)) (by omega) (by decide) dDe_word_33 ?_
      refine lv_astore_n (lv' := [(3, .ref (b (29 + j))), (0, .ref (b 0)), (1, .int (nI j)), (2, .int wh)]) hx hb dDe_word_34 rfl hl (by decide) rfl (fun ls hl => ?_)
      refine lv_iload_n hx hb dDe_word_35 rfl (lv_at hl 3 rfl) ?_
      by_cases hq9 : ∃ q, 0 ≤ q ∧ q ≤ 5 ∧ wh = nI q
      · obtain ⟨q, q1, q2, rfl⟩ := hq9
        rcases (show q = 0 ∨ q = 1 ∨ q = 2 ∨ q = 3 ∨ q = 4 ∨ q = 5 by omega) with rfl | rfl | rfl | rfl | rfl | rfl
        · refine lv_tableIn (off := 40) (tgt := 76) hx hb dDe_word_36 (by decide +kernel) (by decide +kernel) (by decide +kernel) (by decide) ?_
          refine lv_aload_n hx hb dDe_word_76 rfl (lv_at hl 0 rfl) ?_
          refine va_getN (D := (dC, dI)) (ci := 5) (v := .int (I 7 j)) (C := RWo) (T := TWo) (N := 5) hx hb hts inWo hown hK hP (29 + j) (wd_wo (by omega)) rfl 3 (by decide) (va_Nw.use rfl (hE.1 _ en_167)) (fun _ h9 => h9) rfl dDe_word_77 ?_
          exact ex_ret (ct_ri hx hb hr hlocks I (⟨rfl, j, hj, rfl, _, q1, q2, rfl, rfl⟩) hP hD hS (Nat.zero_le _) (Nat.zero_le _) dDe_word_80)
        · refine lv_tableIn (off := 45) (tgt := 81) hx hb dDe_word_36 (by decide +kernel) (by decide +kernel) (by decide +kernel) (by decide) ?_
          refine lv_aload_n hx hb dDe_word_81 rfl (lv_at hl 0 rfl) ?_
          refine va_getN (D := (dC, dI)) (ci := 5) (v := .int (I 4 j)) (C := RWo) (T := TWo) (N := 5) hx hb hts inWo hown hK hP (29 + j) (wd_wo (by omega)) rfl 0 (by decide) (va_Nw.use rfl (hE.1 _ en_161)) (fun _ h9 => h9) rfl dDe_word_82 ?_
          exact ex_ret (ct_ri hx hb hr hlocks I (⟨rfl, j, hj, rfl, _, q1, q2, rfl, rfl⟩) hP hD hS (Nat.zero_le _) (Nat.zero_le _) dDe_word_85)
        · refine lv_tableIn (off := 50) (tgt := 86) hx hb dDe_word_36 (by decide +kernel) (by decide +kernel) (by decide +kernel) (by decide) ?_
          refine lv_aload_n hx hb dDe_word_86 rfl (lv_at hl 0 rfl) ?_
          refine va_getN (D := (dC, dI)) (ci := 5) (v := .int (I 5 j)) (C := RWo) (T := TWo) (N := 5) hx hb hts inWo hown hK hP (29 + j) (wd_wo (by omega)) rfl 1 (by decide) (va_Nw.use rfl (hE.1 _ en_163)) (fun _ h9 => h9) rfl dDe_word_87 ?_
          exact ex_ret (ct_ri hx hb hr hlocks I (⟨rfl, j, hj, rfl, _, q1, q2, rfl, rfl⟩) hP hD hS (Nat.zero_le _) (Nat.zero_le _) dDe_word_90)
        · refine lv_tableIn (off := 55) (tgt := 91) hx hb dDe_word_36 (by decide +kernel) (by decide +kernel) (by decide +kernel) (by decide) ?_
          refine lv_aload_n hx hb dDe_word_91 rfl (lv_at hl 0 rfl) ?_
          refine va_getN (D := (dC, dI)) (ci := 5) (v := .int (I 6 j)) (C := RWo) (T := TWo) (N := 5) hx hb hts inWo hown hK hP (29 + j) (wd_wo (by omega)) rfl 2 (by decide) (va_Nw.use rfl (hE.1 _ en_165)) (fun _ h9 => h9) rfl dDe_word_92 ?_
          exact ex_ret (ct_ri hx hb hr hlocks I (⟨rfl, j, hj, rfl, _, q1, q2, rfl, rfl⟩) hP hD hS (Nat.zero_le _) (Nat.zero_le _) dDe_word_95)
        · refine lv_tableIn (off := 60) (tgt := 96) hx hb dDe_word_36 (by decide +kernel) (by decide +kernel) (by decide +kernel) (by decide) ?_
          refine lv_aload_n hx hb dDe_word_96 rfl (lv_at hl 1 rfl) ?_
          refine lv_bipush (v := nI 16) hx hb dDe_word_97 (by decide +kernel) ?_
          refine lv_aload_n hx hb dDe_word_99 rfl (lv_at hl 0 rfl) ?_
          refine va_getN (D := (dC, dI)) (ci := 5) (v := .int (I 4 j)) (C := RWo) (T := TWo) (N := 5) hx hb hts inWo hown hK hP (29 + j) (wd_wo (by omega)) rfl 0 (by decide) (va_Nw.use rfl (hE.1 _ en_161)) (fun _ h9 => h9) rfl dDe_word_100 ?_
          refine lv_imul hx hb dDe_word_103 ?_
          refine ct_i (va_runV (As := [.int ((nI 16) * (I 4 j))]) (rest := []) ⟨hx, hb, hml, hown, hts⟩ (kDe_milliseconds l dC dI k b P I D _ ((nI 16) * (I 4 j)) hr0) (cwV 1 hts (gw_V tw_612 tw_614 sl_De_milliseconds tw_1 tw_615) rfl rfl rfl (by decide +kernel) ⟨Nat.le_of_ble_eq_true rfl, Nat.le_of_ble_eq_true rfl⟩) ⟨ct_blind (ev := (fun _ => True)) (fun _ _ _ _ h => h), va_recv hK hP (ci := 7) (q0 := 0) rfl rfl, ct_now (ev := (fun _ => True)) (fun _ _ _ => trivial) hP hK hD⟩ rfl rfl hl.1 rfl (lv_room (Nat.le_of_ble_eq_true rfl)) dDe_word_104 ⟨Nat.le_of_ble_eq_true rfl, Nat.le_of_ble_eq_true rfl⟩) hD hS hA (fun r1 u1 H locs hw1 hP hD hS => ?_)
          subst hw1
          exact ex_ret (ct_ri hx hb hr hlocks I (⟨rfl, j, hj, rfl, _, q1, q2, rfl, rfl⟩) hP hD hS (Nat.zero_le _) (Nat.zero_le _) dDe_word_107)
        · refine lv_tableIn (off := 72) (tgt := 108) hx hb dDe_word_36 (by decide +kernel) (by decide +kernel) (by decide +kernel) (by decide) ?_
          refine lv_aload_n hx hb dDe_word_108 rfl (lv_at hl 1 rfl) ?_
          refine lv_bipush (v := nI 16) hx hb dDe_word_109 (by decide +kernel) ?_
          refine lv_aload_n hx hb dDe_word_111 rfl (lv_at hl 0 rfl) ?_
          refine va_getN (D := (dC, dI)) (ci := 5) (v := .int (I 4 j)) (C := RWo) (T := TWo) (N := 5) hx hb hts inWo hown hK hP (29 + j) (wd_wo (by omega)) rfl 0 (by decide) (va_Nw.use rfl (hE.1 _ en_161)) (fun _ h9 => h9) rfl dDe_word_112 ?_
          refine lv_aload_n hx hb dDe_word_115 rfl (lv_at hl 0 rfl) ?_
          refine va_getN (D := (dC, dI)) (ci := 5) (v := .int (I 5 j)) (C := RWo) (T := TWo) (N := 5) hx hb hts inWo hown hK hP (29 + j) (wd_wo (by omega)) rfl 1 (by decide) (va_Nw.use rfl (hE.1 _ en_163)) (fun _ h9 => h9) rfl dDe_word_116 ?_
          refine lv_iadd hx hb dDe_word_119 ?_
          refine lv_imul hx hb dDe_word_120 ?_
          refine lv_bipush (v := nI 16) hx hb dDe_word_121 (by decide +kernel) ?_
          refine lv_iadd hx hb dDe_word_123 ?_
          refine ct_i (va_runV (As := [.int (((nI 16) * ((I 4 j) + (I 5 j))) + (nI 16))]) (rest := []) ⟨hx, hb, hml, hown, hts⟩ (kDe_milliseconds l dC dI k b P I D _ (((nI 16) * ((I 4 j) + (I 5 j))) + (nI 16)) hr0) (cwV 1 hts (gw_V tw_612 tw_614 sl_De_milliseconds tw_1 tw_615) rfl rfl rfl (by decide +kernel) ⟨Nat.le_of_ble_eq_true rfl, Nat.le_of_ble_eq_true rfl⟩) ⟨ct_blind (ev := (fun _ => True)) (fun _ _ _ _ h => h), va_recv hK hP (ci := 7) (q0 := 0) rfl rfl, ct_now (ev := (fun _ => True)) (fun _ _ _ => trivial) hP hK hD⟩ rfl rfl hl.1 rfl (lv_room (Nat.le_of_ble_eq_true rfl)) dDe_word_124 ⟨Nat.le_of_ble_eq_true rfl, Nat.le_of_ble_eq_true rfl⟩) hD hS hA (fun r2 u2 H locs hw2 hP hD hS => ?_)
          subst hw2
          exact ex_ret (ct_ri hx hb hr hlocks I (⟨rfl, j, hj, rfl, _, q1, q2, rfl, rfl⟩) hP hD hS (Nat.zero_le _) (Nat.zero_le _) dDe_word_127)
      · refine lv_tableOut (tgt := 128) hx hb dDe_word_36 (tb_out hq9) (by decide) ?_
        exact th_throw hx hb hln (cls := th_IA) (text := "0 to 5 can be asked of a word") hown hP0 hAe hts hE.2 (by decide +kernel) t3_67_221 th_IA_w (hl.1.trans hml.symm) htab dDe_word_128 dDe_word_131 dDe_word_132 dDe_word_134 dDe_word_137 hlocks I (⟨rfl, Or.inr ⟨rfl, ⟨j, hj, rfl⟩, hq9⟩⟩) hP hD hS (Nat.le_of_ble_eq_true rfl) (Nat.le_of_ble_eq_true rfl) (Nat.le_of_ble_eq_true rfl) (Nat.le_of_ble_eq_true rfl) (Nat.le_refl _) (Nat.le_refl _)
    · exact th_throwN hx hb hln (text := "there is no such word") hown hP0 hAe hts hE.2 t3_162_205 (hl.1.trans hml.symm) htab dDe_word_15 dDe_word_18 dDe_word_19 dDe_word_21 dDe_word_24 hlocks I (⟨rfl, Or.inl ⟨rfl, by first | (exact dj_lo (by omega) c1) | (exact dj_hi (by omega) c12)⟩⟩) hP hD hS (Nat.le_of_ble_eq_true rfl) (Nat.le_of_ble_eq_true rfl) (Nat.le_of_ble_eq_true rfl) (Nat.le_of_ble_eq_true rfl) (Nat.le_refl _) (Nat.le_refl _)
set_option maxHeartbeats 4000000 in
set_option maxRecDepth 100000 in
theorem kDe_cost (l : Launch) (hln : l.stackTraces = false) (dC : Nat → ClassId) (dI : Nat → Nat → Nat) (k : Nat → ClassId) (b P : Nat → Nat) (I : Nat → Nat → Int32) (D : Nat → Nat → UInt64) (sz : Nat) (k9 : Int32) (nw : Nat) (hnw : nw ≤ 19) (h7 : I 0 7 = nI nw) : ex_Met l yDe_cost wDe_cost ({ frames := 6, cells := 1, slots := 6, locals := 82 }) (va_Pc [.ref (b 0), .int k9] (ct_pre (dC, dI) (de_ty k) ev_D (wd k b P I D) sz)) (va_Qd (fun r (u : Nat → Nat → Int32) => u = I ∧ ∃ j, j < nw ∧ k9 = nI j ∧ I 6 j ≠ -1 ∧ r = D 9 j) (fun u t => ct_at (dC, dI) (va_A (wd k b P I D) sz) ((fun u => wd k b P u D) u) t) (va_A (wd k b P I D) sz)) (ct_X (dC, dI) (va_A (wd k b P I D) sz) (fun E (u : Nat → Nat → Int32) => u = I ∧ ((E = th_NS ∧ ¬ ∃ j, j < nw ∧ k9 = nI j) ∨ (E = th_IS ∧ ∃ j, j < nw ∧ k9 = nI j ∧ I 6 j = -1))) (fun u => wd k b P u D)) 1 6 (va_A (wd k b P I D) sz) := by
  refine ex_met (cc := cDe_cost) (maxL := 2) (ret := (some .double)) (by decide) rfl ?_
  intro p e s m args below meth c s₁ B hml htab hv
  obtain ⟨rfl, hsz, hP, hK, hD0, hE⟩ := hv
  have hx := B.exec
  have hb := B.bytes
  have hr := B.returns
  have hts : ∀ w ∈ W0, w.before [.ref (b 0), .int k9].toArray s = true := fun w h => atoms_spec (ws := wDe_cost) B.pre w (List.mem_cons_of_mem _ h)
  have hown : s.vm.findClass RDe = some m.cls := findClass_of_methodNamed B.named
  have hlocks := B.notSynchronized
  subst hsz
  have hP0 := hP
  have hD := hD0.self (sz := s.heap.size)
  generalize hAe : va_A (wd k b P I D) s.heap.size = A at hD ⊢
  have hA : ∀ q : Nat, s.heap.size ≤ q → A q := fun q h => by rw [← hAe]; exact Or.inr h
  have hS : va_S A s.heap s.heap [] := va_S.rf
  have hl := lv_entry ([.ref (b 0), .int k9]) (n := 2) (Nat.le_of_ble_eq_true rfl)
  rw [lg_entry_eq]
  generalize (lg_sl ([.ref (b 0), .int k9]) ++ List.replicate (2 - (lg_sl ([.ref (b 0), .int k9])).length) Slot.unset).toArray = ls at hl ⊢
  have hl : lv_has ls 2 [(0, .ref (b 0)), (1, .int k9)] := hl
  refine lv_iload_n hx hb dDe_cost_0 rfl (lv_at hl 1 rfl) ?_
  refine lv_if_lt (tgt := 15) hx hb dDe_cost_1 (by decide) (fun c1 => ?_) (fun c1 => ?_)
  · exact th_throwN hx hb hln (text := "there is no such word") hown hP0 hAe hts hE.2 t3_162_205 (hl.1.trans hml.symm) htab dDe_cost_15 dDe_cost_18 dDe_cost_19 dDe_cost_21 dDe_cost_24 hlocks I (⟨rfl, Or.inl ⟨rfl, by first | (exact dj_lo (by omega) c1) | (exact dj_hi (by omega) c12)⟩⟩) hP hD hS (Nat.le_of_ble_eq_true rfl) (Nat.le_of_ble_eq_true rfl) (Nat.le_of_ble_eq_true rfl) (Nat.le_of_ble_eq_true rfl) (Nat.le_refl _) (Nat.le_refl _)
  · refine lv_iload_n hx hb dDe_cost_4 rfl (lv_at hl 1 rfl) ?_
    refine lv_aload_n hx hb dDe_cost_5 rfl (lv_at hl 0 rfl) ?_
    refine va_get (D := (dC, dI)) (ci := 7) (v := .ref (b 15)) (C := RDe) (T := TDe) (N := 10) hx hb hts inDe hown hK hP 0 rfl rfl 4 (by decide) (hts _ tw_196) (fun _ h9 => h9) rfl dDe_cost_6 ?_
    refine va_getN (D := (dC, dI)) (ci := 6) (v := .int (I 0 7)) (C := RLi) (T := TLi) (N := 2) hx hb hts inLi hown hK hP 15 rfl rfl 1 (by decide) (va_Nw.use rfl (hE.1 _ en_184)) (fun _ h9 => h9) rfl dDe_cost_9 ?_
    refine rw_i (y := nI nw) h7 ?_
    refine lv_icmp_lt (tgt := 25) hx hb dDe_cost_12 (by decide) (fun c12 => ?_) (fun c12 => ?_)
    · obtain ⟨j, hj, rfl⟩ := dj_in (by omega) c1 c12
      refine lv_aload_n hx hb dDe_cost_25 rfl (lv_at hl 0 rfl) ?_
      refine va_get (D := (dC, dI)) (ci := 7) (v := .ref (b 15)) (C := RDe) (T := TDe) (N := 10) hx hb hts inDe hown hK hP 0 rfl rfl 4 (by decide) (hts _ tw_196) (fun _ h9 => h9) rfl dDe_cost_26 ?_
      refine va_getN (D := (dC, dI)) (ci := 6) (v := .ref (b 16)) (C := RLi) (T := TLi) (N := 2) hx hb hts inLi hown hK hP 15 rfl rfl 0 (by decide) (va_Nw.use rfl (hE.1 _ en_182)) (fun _ h9 => h9) rfl dDe_cost_29 ?_
      refine lv_iload_n hx hb dDe_cost_32 rfl (lv_at hl 1 rfl) ?_
      refine rw_ald_q (x := b (29 + j)) hx hb hK hP 16 3 rfl rfl (if_pos (by omega)) (by omega) (by decide) dDe_cost_33 ?_
      refine va_getN (D := (dC, dI)) (ci := 5) (v := .int (I 6 j)) (C := RWo) (T := TWo) (N := 5) hx hb hts inWo hown hK hP (29 + j) (wd_wo (by omega)) rfl 2 (by decide) (va_Nw.use rfl (hE.1 _ en_165)) (fun _ h9 => h9) rfl dDe_cost_34 ?_
      refine lv_iconst (v := (-1)) hx hb dDe_cost_37 (by decide +kernel) ?_
      refine lv_icmp_ne (tgt := 51) hx hb dDe_cost_38 (by decide) (fun c38 => ?_) (fun c38 => ?_)
      · refine lv_aload_n hx hb dDe_cost_51 rfl (lv_at hl 0 rfl) ?_
        refine va_get (D := (dC, dI)) (ci := 7) (v := .ref (b 15)) (C := RDe) (T := TDe) (N := 10) hx hb hts inDe hown hK hP 0 rfl rfl 4 (by decide) (hts _ tw_196) (fun _ h9 => h9) rfl dDe_cost_52 ?_
        refine va_getN (D := (dC, dI)) (ci := 6) (v := .ref (b 16)) (C := RLi) (T := TLi) (N := 2) hx hb hts inLi hown hK hP 15 rfl rfl 0 (by decide) (va_Nw.use rfl (hE.1 _ en_182)) (fun _ h9 => h9) rfl dDe_cost_55 ?_
        refine lv_iload_n hx hb dDe_cost_58 rfl (lv_at hl 1 rfl) ?_
        refine rw_ald_q (x := b (29 + j)) hx hb hK hP 16 3 rfl rfl (if_pos (by omega)) (by omega) (by decide) dDe_cost_59 ?_
        refine va_getN (D := (dC, dI)) (ci := 5) (v := .double (D 9 j)) (C := RWo) (T := TWo) (N := 5) hx hb hts inWo hown hK hP (29 + j) (wd_wo (by omega)) rfl 4 (by decide) (va_Nw.use rfl (hE.1 _ en_169)) (fun _ h9 => h9) rfl dDe_cost_60 ?_
        exact ex_ret (ct_rd hx hb hr hlocks I (⟨rfl, j, hj, rfl, c38, rfl⟩) hP hD hS (Nat.zero_le _) (Nat.zero_le _) dDe_cost_63)
      · exact th_throw hx hb hln (cls := th_IS) (text := "there were no patterns") hown hP0 hAe hts hE.2 (by decide +kernel) t3_185_223 th_IS_w (hl.1.trans hml.symm) htab dDe_cost_41 dDe_cost_44 dDe_cost_45 dDe_cost_47 dDe_cost_50 hlocks I (⟨rfl, Or.inr ⟨rfl, j, hj, rfl, c38⟩⟩) hP hD hS (Nat.le_of_ble_eq_true rfl) (Nat.le_of_ble_eq_true rfl) (Nat.le_of_ble_eq_true rfl) (Nat.le_of_ble_eq_true rfl) (Nat.le_refl _) (Nat.le_refl _)
    · exact th_throwN hx hb hln (text := "there is no such word") hown hP0 hAe hts hE.2 t3_162_205 (hl.1.trans hml.symm) htab dDe_cost_15 dDe_cost_18 dDe_cost_19 dDe_cost_21 dDe_cost_24 hlocks I (⟨rfl, Or.inl ⟨rfl, by first | (exact dj_lo (by omega) c1) | (exact dj_hi (by omega) c12)⟩⟩) hP hD hS (Nat.le_of_ble_eq_true rfl) (Nat.le_of_ble_eq_true rfl) (Nat.le_of_ble_eq_true rfl) (Nat.le_of_ble_eq_true rfl) (Nat.le_refl _) (Nat.le_refl _)
