set_option maxHeartbeats 4000000 in
set_option maxRecDepth 100000 in
/-- the law ends with 1 from its exit -/
theorem la_end {p : Program} {l : Launch} {e : Env} {s : State} {m : MethodId} {below : List Frame} {meth : Method} {c : Code} {b L : Nat} {xs : Nat → Int32} (C0 : lw_At p s m meth c b L xs) {H : Heap} {locs : List Loc} {ls : Array Slot} {cells slots : Nat} (hc : cells ≤ 600002) (hs : slots ≤ 7302232) (hS : va_S (fun q : Nat => s.heap.size ≤ q) s.heap H locs) : W p l e room_1 s m #[Value.ref b] below meth c H locs cells slots (lw_Z below #[Value.ref b] s) (F0 m 1195 ls []) := by
  obtain ⟨hx, hb, hr, hml, hown, hts, hX, hbl, hlocks, hgv⟩ := id C0
  refine lv_iconst (v := 1) hx hb dlaw_1195 (by decide +kernel) ?_
  refine va_forget (fun q hq => hS.2.2 q hq) ?_
  refine W.widen hc hs ?_
  exact lw_ret hx hb hr hlocks dlaw_1196
set_option maxHeartbeats 8000000 in
set_option maxRecDepth 100000 in
theorem law_one {p : Program} {e : Env} {s : State} {m : MethodId} {below : List Frame} {meth : Method} {c : Code} (l : Launch) (hln : l.stackTraces = false) {b L : Nat} {xs : Nat → Int32} (hL : L ≤ 4) (C0 : lw_At p s m meth c b L xs) : W p l e room_1 s m #[Value.ref b] below meth c s.heap [] 0 0 (lw_Z below #[Value.ref b] s) (entryFrame m ([Value.ref b] : List Value).toArray 9) := by
  obtain ⟨hx, hb, hr, hml, hown, htt, hX, hbl, hlocks, hgv⟩ := id C0
  obtain ⟨dC, dI, k, hK⟩ := la_K htt
  obtain ⟨hE, hEA⟩ := la_E htt hgv
  have hts : ∀ w ∈ W0, w.before #[Value.ref b] s = true := fun w h => htt w (W0_ok w h)
  have hA : ∀ q : Nat, s.heap.size ≤ q → (fun q : Nat => s.heap.size ≤ q) q := fun _ h => h
  have hS : va_S (fun q : Nat => s.heap.size ≤ q) s.heap s.heap [] := va_S.rf
  have hP : va_P (dC, dI) vwCl [] s.heap := fun k q h => by simp at h
  have hD : va_D (fun q : Nat => s.heap.size ≤ q) [] := ⟨fun i j p q h => by simp at h, fun k q h => by simp at h⟩
  have hl := lv_entry ([.ref b]) (n := 9) (Nat.le_of_ble_eq_true rfl)
  rw [lg_entry_eq]
  generalize (lg_sl ([.ref b]) ++ List.replicate (9 - (lg_sl ([.ref b])).length) Slot.unset).toArray = ls at hl ⊢
  have hl : lv_has ls 9 [(0, .ref b)] := hl
  refine va_new (ci := 7) (fs := [.null, .null, .null, .null, .null, .int 0, .int 0, .double 0, .int 0, .double 0]) (C := RDe) (T := TDe) (N := 10) hx hb hts inDe tyDe tyDe_ok hown (hts _ tw_19) (hts _ tw_20) (hts _ tw_1) hK hP hD hS hA rfl (fun j hj => by rcases (show j = 0 ∨ j = 1 ∨ j = 2 ∨ j = 3 ∨ j = 4 ∨ j = 5 ∨ j = 6 ∨ j = 7 ∨ j = 8 ∨ j = 9 by omega) with rfl | rfl | rfl | rfl | rfl | rfl | rfl | rfl | rfl | rfl <;> rfl) (Nat.le_of_ble_eq_true rfl) (Nat.le_of_ble_eq_true rfl) dlaw_0 (fun qa H hP hD hS => ?_)
  refine W.widen (k := 1) (n := 10) (by omega) (by omega) ?_
  refine lv_dup hx hb dlaw_3 rfl ?_
  have hP : va_P (dC, dI) vwCl ([] ++ ([(qa, .inr (7, [.null, .null, .null, .null, .null, .int 0, .int 0, .double 0, .int 0, .double 0]))] ++ [])) H := hP
  have hD : va_D (fun q : Nat => s.heap.size ≤ q) ([] ++ ([(qa, .inr (7, [.null, .null, .null, .null, .null, .int 0, .int 0, .double 0, .int 0, .double 0]))] ++ [])) := hD
  refine sg_v (va_runI (As := []) (rest := [.ref qa]) ⟨hx, hb, hml, hown, hts⟩ (kDe_init l dC dI k _ qa) (cwI 0 hts (gw_I tw_23) rfl rfl rfl (hts _ tw_1) (hts _ tw_21) (hts _ tw_22) rfl (by decide +kernel) ⟨Nat.le_of_ble_eq_true rfl, Nat.le_of_ble_eq_true rfl⟩) ⟨ct_blind (ev := ev_A) (fun U _ _ _ h => h.moved (Vm.Alike.refl U.vm)), ct_now (A := (fun q : Nat => s.heap.size ≤ q)) (ev := ev_A) (fun U _ hW => hEA.moved hW.alike) (sg_Pc hP) (hK.sub (tys' := de_ty k) [0, 1, 2, 3] rfl) (sg_Dc hD)⟩ rfl rfl hl.1 rfl (lv_room (Nat.le_of_ble_eq_true rfl)) dlaw_4 ⟨Nat.le_of_ble_eq_true rfl, Nat.le_of_ble_eq_true rfl⟩) hP hD hS hA (fun u H locs hwu hP2 hD2 hS2 => ?_)
  refine W.widen (k := 48) (n := 1437) (by omega) (by omega) ?_
  obtain ⟨eu, fu⟩ := hwu
  subst eu
  have hP : va_P (dC, dI) vwCl (wd k u.1 (fun j => j) de_I0 (de_D0 u.2)) H := by rw [List.append_nil] at hP2; exact hP2
  have hD : va_D (fun q : Nat => s.heap.size ≤ q) (wd k u.1 (fun j => j) de_I0 (de_D0 u.2)) := by rw [List.append_nil] at hD2; exact hD2
  have hS := hS2
  refine lv_astore_n (lv' := [(1, .ref (u.1 0)), (0, .ref b)]) hx hb dlaw_7 rfl hl (by decide) rfl (fun ls hl => ?_)
  refine va_new (ci := 8) (fs := [.int 0, .int 0, .int 0, .int 0, .int 0, .int 0, .int 0, .int 0, .int 0, .int 0, .double 0, .double 0, .null, .null, .null, .null, .null, .null, .null, .null, .null, .null, .null, .null, .null, .null, .null]) (C := RMo) (T := TMo) (N := 27) hx hb hts inMo tyMo tyMo_ok hown (hts _ tw_638) (hts _ tw_639) (hts _ tw_9) hK hP hD hS hA rfl (fun j hj => by rcases (show j = 0 ∨ j = 1 ∨ j = 2 ∨ j = 3 ∨ j = 4 ∨ j = 5 ∨ j = 6 ∨ j = 7 ∨ j = 8 ∨ j = 9 ∨ j = 10 ∨ j = 11 ∨ j = 12 ∨ j = 13 ∨ j = 14 ∨ j = 15 ∨ j = 16 ∨ j = 17 ∨ j = 18 ∨ j = 19 ∨ j = 20 ∨ j = 21 ∨ j = 22 ∨ j = 23 ∨ j = 24 ∨ j = 25 ∨ j = 26 by omega) with rfl | rfl | rfl | rfl | rfl | rfl | rfl | rfl | rfl | rfl | rfl | rfl | rfl | rfl | rfl | rfl | rfl | rfl | rfl | rfl | rfl | rfl | rfl | rfl | rfl | rfl | rfl <;> rfl) (Nat.le_of_ble_eq_true rfl) (Nat.le_of_ble_eq_true rfl) dlaw_8 (fun qb H hP hD hS => ?_)
  refine W.widen (k := 49) (n := 1464) (by omega) (by omega) ?_
  refine lv_dup hx hb dlaw_11 rfl ?_
  have hP : va_P (dC, dI) vwCl ((wd k u.1 (fun j => j) de_I0 (de_D0 u.2)) ++ ([(qb, .inr (8, [.int 0, .int 0, .int 0, .int 0, .int 0, .int 0, .int 0, .int 0, .int 0, .int 0, .double 0, .double 0, .null, .null, .null, .null, .null, .null, .null, .null, .null, .null, .null, .null, .null, .null, .null]))] ++ [])) H := hP
  have hD : va_D (fun q : Nat => s.heap.size ≤ q) ((wd k u.1 (fun j => j) de_I0 (de_D0 u.2)) ++ ([(qb, .inr (8, [.int 0, .int 0, .int 0, .int 0, .int 0, .int 0, .int 0, .int 0, .int 0, .int 0, .double 0, .double 0, .null, .null, .null, .null, .null, .null, .null, .null, .null, .null, .null, .null, .null, .null, .null]))] ++ [])) := hD
  refine sg_v (va_runI (As := []) (rest := [.ref qb]) ⟨hx, hb, hml, hown, hts⟩ (kMo_init l dC dI k _ qb) (cwI 0 hts (gw_I tw_642) rfl rfl rfl (hts _ tw_9) (hts _ tw_640) (hts _ tw_641) rfl (by decide +kernel) ⟨Nat.le_of_ble_eq_true rfl, Nat.le_of_ble_eq_true rfl⟩) ⟨ct_blind (ev := (fun _ => True)) (fun _ _ _ _ h => h), ct_now (A := (fun q : Nat => s.heap.size ≤ q)) (ev := (fun _ => True)) (fun _ _ _ => trivial) (sg_Pc hP) (hK.sub (tys' := de_ty k) [0, 1, 2, 3] rfl) (sg_Dc hD)⟩ rfl rfl hl.1 rfl (lv_room (Nat.le_of_ble_eq_true rfl)) dlaw_12 ⟨Nat.le_of_ble_eq_true rfl, Nat.le_of_ble_eq_true rfl⟩) hP hD hS hA (fun v H locs hwv hP2 hD2 hS2 => ?_)
  refine W.widen (k := 64) (n := 2912) (by omega) (by omega) ?_
  obtain ⟨ev, fv, gv⟩ := hwv
  subst ev
  have hP : va_P (dC, dI) vwCl (wd k u.1 (fun j => j) de_I0 (de_D0 u.2) ++ wm k v.1 mo_I0 v.2) H := by rw [List.append_nil] at hP2; exact hP2
  have hD : va_D (fun q : Nat => s.heap.size ≤ q) (wd k u.1 (fun j => j) de_I0 (de_D0 u.2) ++ wm k v.1 mo_I0 v.2) := by rw [List.append_nil] at hD2; exact hD2
  have hS := hS2
  refine lv_astore_n (lv' := [(2, .ref (v.1 0)), (1, .ref (u.1 0)), (0, .ref b)]) hx hb dlaw_15 rfl hl (by decide) rfl (fun ls hl => ?_)
  refine lv_iconst (v := nI 1) hx hb dlaw_16 (by decide +kernel) ?_
  refine rn_newa (atype := .long) (a0 := (1, .inr (.inl (fun _ => 0)))) (N' := 1) (kA := k 4) hx hb (hts _ tw_878) (ty := .long) rfl hK hP hD hS hA 4 rfl (fun _ h9 => h9) (fun _ => rfl) (by decide +kernel) (by decide +kernel) (by decide) (Nat.le_of_ble_eq_true rfl) (Nat.le_of_ble_eq_true rfl) dlaw_17 (fun ob H hP hD hS => ?_)
  refine W.widen (k := 65) (n := 2913) (by omega) (by omega) ?_
  refine lv_astore_n (lv' := [(3, .ref ob), (2, .ref (v.1 0)), (1, .ref (u.1 0)), (0, .ref b)]) hx hb dlaw_19 rfl hl (by decide) rfl (fun ls hl => ?_)
  refine lv_iconst (v := nI 1) hx hb dlaw_20 (by decide +kernel) ?_
  refine rn_newa (atype := .double) (a0 := (1, wd_d (fun _ => 0))) (N' := 1) (kA := k 1) hx hb (hts _ tw_67) (ty := .double) rfl hK hP hD hS hA 1 rfl (fun _ h9 => h9) (fun _ => rfl) (by decide +kernel) (by decide +kernel) (by decide) (Nat.le_of_ble_eq_true rfl) (Nat.le_of_ble_eq_true rfl) dlaw_21 (fun od H hP hD hS => ?_)
  refine W.widen (k := 66) (n := 2914) (by omega) (by omega) ?_
  refine lv_astore (lv' := [(4, .ref od), (3, .ref ob), (2, .ref (v.1 0)), (1, .ref (u.1 0)), (0, .ref b)]) hx hb dlaw_23 hl (by decide) rfl (fun ls hl => ?_)
  have hP := hP.sub (ws' := lw k u.1 (fun j => j) de_I0 (de_D0 u.2) v.1 mo_I0 v.2 ob (fun _ => 0) od (fun _ => 0)) [64, 0, 1, 2, 3, 4, 5, 6, 7, 8, 9, 10, 11, 12, 13, 14, 15, 16, 17, 18, 19, 20, 21, 22, 23, 24, 25, 26, 27, 28, 29, 30, 31, 32, 33, 34, 35, 36, 37, 38, 39, 40, 41, 42, 43, 44, 45, 46, 47, 65, 48, 49, 50, 51, 52, 53, 54, 55, 56, 57, 58, 59, 60, 61, 62, 63] rfl
  have hD := hD.sub (ws' := lw k u.1 (fun j => j) de_I0 (de_D0 u.2) v.1 mo_I0 v.2 ob (fun _ => 0) od (fun _ => 0)) [64, 0, 1, 2, 3, 4, 5, 6, 7, 8, 9, 10, 11, 12, 13, 14, 15, 16, 17, 18, 19, 20, 21, 22, 23, 24, 25, 26, 27, 28, 29, 30, 31, 32, 33, 34, 35, 36, 37, 38, 39, 40, 41, 42, 43, 44, 45, 46, 47, 65, 48, 49, 50, 51, 52, 53, 54, 55, 56, 57, 58, 59, 60, 61, 62, 63] (by decide) rfl
  have CX : la_cx p l s m c b L xs dC dI k := ⟨hx, hb, hml, hown, hts, hX, hbl, hK, hE, hln⟩
  have FX : la_fx u.2 v.2 := ⟨fu, fv⟩
  refine lv_iconst (v := nI 0) hx hb dlaw_25 (by decide +kernel) ?_
  refine lv_istore (lv' := [(5, .int (nI 0)), (4, .ref od), (3, .ref ob), (2, .ref (v.1 0)), (1, .ref (u.1 0)), (0, .ref b)]) hx hb dlaw_26 hl (by decide) rfl (fun ls hl => ?_)
  refine lv_iload hx hb dlaw_28 (lv_at hl 0 rfl) ?_
  refine lv_aload_n hx hb dlaw_30 rfl (lv_at hl 5 rfl) ?_
  refine va_slen hx hb hX hbl (Nat.not_le.mpr hbl) hS dlaw_31 ?_
  refine lv_iconst (v := nI 4) hx hb dlaw_32 (by decide +kernel) ?_
  refine lv_isub hx hb dlaw_33 ?_
  refine lv_icmp_gt (tgt := 1195) hx hb dlaw_34 (by decide) (fun c34 => ?_) (fun c34 => ?_)
  · exact la_end C0 (by decide) (by decide) hS
  · have hL4 : L = 4 := by
      have h9 := Int32.le_iff_toInt_le.mp (Int32.not_lt.mp c34)
      have h8 : (nI L - nI 4).toInt = (L : Int) - 4 := pk_sub_toInt (by omega) (by decide)
      have h7 : (nI 0).toInt = 0 := by decide
      rw [h7] at h9
      have h6 : (0 : Int) ≤ (nI L - nI 4).toInt := h9
      omega
    subst hL4
    have K : ∀ (H : Heap) (locs : List Loc) (ls : Array Slot), va_S (fun q : Nat => s.heap.size ≤ q) s.heap H locs → lv_has ls 9 [(5, .int (nI 0)), (0, .ref b)] → W p l e room_1 s m #[Value.ref b] below meth c H locs 67 2920 (lw_Z below #[Value.ref b] s) (F0 m 1189 ls []) := by
      intro H locs ls hS hl
      refine lv_iinc (v := nI 4) (lv' := [(5, .int (nI 4)), (0, .ref b)]) hx hb dlaw_1189 hl (k := 0) rfl (by decide) (by decide) rfl (fun ls hl => ?_)
      refine lv_goto (tgt := 28) hx hb dlaw_1192 (by decide) ?_
      refine lv_iload hx hb dlaw_28 (lv_at hl 0 rfl) ?_
      refine lv_aload_n hx hb dlaw_30 rfl (lv_at hl 1 rfl) ?_
      refine va_slen hx hb hX hbl (Nat.not_le.mpr hbl) hS dlaw_31 ?_
      refine lv_iconst (v := nI 4) hx hb dlaw_32 (by decide +kernel) ?_
      refine lv_isub hx hb dlaw_33 ?_
      refine lv_icmp_gt (tgt := 1195) hx hb dlaw_34 (by decide) (fun c34 => ?_) (fun c34 => ?_)
      · exact la_end C0 (by decide) (by decide) hS
      · exact absurd (by decide) c34
    refine lv_aload_n hx hb dlaw_37 rfl (lv_at hl 5 rfl) ?_
    refine lv_iload hx hb dlaw_38 (lv_at hl 0 rfl) ?_
    refine rw_sld (k := 0) hx hb hX hbl (Nat.not_le.mpr hbl) hS (by decide) (by decide) dlaw_40 ?_
    refine lv_bipush (v := nI 15) hx hb dlaw_41 (by decide +kernel) ?_
    refine lv_iand hx hb dlaw_43 ?_
    obtain ⟨j, hj, ej⟩ := pk_andE (xs 0) (m := nI 15) 4 (by decide)
    refine rw_i (y := nI j) ej ?_
    rcases (show j = 0 ∨ j = 1 ∨ j = 2 ∨ j = 3 ∨ j = 4 ∨ j = 5 ∨ j = 6 ∨ j = 7 ∨ j = 8 ∨ j = 9 ∨ j = 10 ∨ j = 11 ∨ j = 12 ∨ j = 13 ∨ j = 14 ∨ j = 15 by omega) with rfl | rfl | rfl | rfl | rfl | rfl | rfl | rfl | rfl | rfl | rfl | rfl | rfl | rfl | rfl | rfl
    · refine lv_tableIn (off := 80) (tgt := 124) hx hb dlaw_44 (by decide +kernel) (by decide +kernel) (by decide +kernel) (by decide) ?_
      exact ar_octets l (Nat.le_refl 4) (by decide) CX FX hP hD hS hl K
    · refine lv_tableIn (off := 180) (tgt := 224) hx hb dlaw_44 (by decide +kernel) (by decide +kernel) (by decide +kernel) (by decide) ?_
      exact ar_read l (Nat.le_refl 4) (by decide) CX FX hP hD hS hl K
    · refine lv_tableIn (off := 224) (tgt := 268) hx hb dlaw_44 (by decide +kernel) (by decide +kernel) (by decide +kernel) (by decide) ?_
      exact ar_place l (Nat.le_refl 4) (by decide) CX FX hP hD hS hl K
    · refine lv_tableIn (off := 237) (tgt := 281) hx hb dlaw_44 (by decide +kernel) (by decide +kernel) (by decide +kernel) (by decide) ?_
      exact ar_wave l (Nat.le_refl 4) (by decide) CX FX hP hD hS hl K
    · refine lv_tableIn (off := 327) (tgt := 371) hx hb dlaw_44 (by decide +kernel) (by decide +kernel) (by decide +kernel) (by decide) ?_
      exact ar_clear l (Nat.le_refl 4) (by decide) CX FX hP hD hS hl K
    · refine lv_tableIn (off := 340) (tgt := 384) hx hb dlaw_44 (by decide +kernel) (by decide +kernel) (by decide +kernel) (by decide) ?_
      exact ar_sample l (Nat.le_refl 4) (by decide) CX FX hP hD hS hl K
    · refine lv_tableIn (off := 417) (tgt := 461) hx hb dlaw_44 (by decide +kernel) (by decide +kernel) (by decide +kernel) (by decide) ?_
      exact ar_power l (Nat.le_refl 4) (by decide) CX FX hP hD hS hl K
    · refine lv_tableIn (off := 506) (tgt := 550) hx hb dlaw_44 (by decide +kernel) (by decide +kernel) (by decide +kernel) (by decide) ?_
      exact ar_level l (Nat.le_refl 4) (by decide) CX FX hP hD hS hl K
    · refine lv_tableIn (off := 595) (tgt := 639) hx hb dlaw_44 (by decide +kernel) (by decide +kernel) (by decide +kernel) (by decide) ?_
      exact ar_ways l (Nat.le_refl 4) (by decide) CX FX hP hD hS hl K
    · refine lv_tableIn (off := 675) (tgt := 719) hx hb dlaw_44 (by decide +kernel) (by decide +kernel) (by decide +kernel) (by decide) ?_
      exact ar_learn l (Nat.le_refl 4) (by decide) CX FX hP hD hS hl K
    · refine lv_tableIn (off := 755) (tgt := 799) hx hb dlaw_44 (by decide +kernel) (by decide +kernel) (by decide +kernel) (by decide) ?_
      exact ar_forget l (Nat.le_refl 4) (by decide) CX FX hP hD hS hl K
    · refine lv_tableIn (off := 811) (tgt := 855) hx hb dlaw_44 (by decide +kernel) (by decide +kernel) (by decide +kernel) (by decide) ?_
      exact ar_warp l (Nat.le_refl 4) (by decide) CX FX hP hD hS hl K
    · refine lv_tableIn (off := 900) (tgt := 944) hx hb dlaw_44 (by decide +kernel) (by decide +kernel) (by decide +kernel) (by decide) ?_
      exact ar_hear l (Nat.le_refl 4) (by decide) CX FX hP hD hS hl K
    · refine lv_tableIn (off := 944) (tgt := 988) hx hb dlaw_44 (by decide +kernel) (by decide +kernel) (by decide +kernel) (by decide) ?_
      exact ar_word l (Nat.le_refl 4) (by decide) CX FX hP hD hS hl K
    · refine lv_tableIn (off := 1012) (tgt := 1056) hx hb dlaw_44 (by decide +kernel) (by decide +kernel) (by decide +kernel) (by decide) ?_
      exact ar_cost l (Nat.le_refl 4) (by decide) CX FX hP hD hS hl K
    · refine lv_tableIn (off := 1089) (tgt := 1133) hx hb dlaw_44 (by decide +kernel) (by decide +kernel) (by decide +kernel) (by decide) ?_
      exact ar_count l (Nat.le_refl 4) (by decide) CX FX hP hD hS hl K
