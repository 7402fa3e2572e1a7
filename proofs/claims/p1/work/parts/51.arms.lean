set_option maxHeartbeats 4000000 in
set_option maxRecDepth 100000 in
theorem ar_ways {p : Program} {e : Env} {s : State} {m : MethodId} {below : List Frame} {meth : Method} {c : Code} {Q : State → Prop} (l : Launch) {sb L : Nat} {xs : Nat → Int32} (hL4 : 4 ≤ L) (hLb : L ≤ 2048) {dC : Nat → ClassId} {dI : Nat → Nat → Nat} {k : Nat → ClassId} (CX : la_cx p l s m c sb L xs dC dI k) {b b2 : Nat → Nat} {X D2 : Nat → Nat → UInt64} {ob od : Nat} {o : Nat → Int64} {q : Nat → UInt64} (FX : la_fx X D2) {H : Heap} {locs : List Loc} {ls : Array Slot} (hP : va_P (dC, dI) vwCl (lw k b (fun j => j) de_I0 (de_D0 X) b2 mo_I0 D2 ob o od q) H) (hD : va_D (fun q : Nat => s.heap.size ≤ q) (lw k b (fun j => j) de_I0 (de_D0 X) b2 mo_I0 D2 ob o od q)) (hS : va_S (fun q : Nat => s.heap.size ≤ q) s.heap H locs) (hl : lv_has ls 9 [(5, .int (nI 0)), (4, .ref od), (3, .ref ob), (2, .ref (b2 0)), (1, .ref (b 0)), (0, .ref sb)]) (K : ∀ (H : Heap) (locs : List Loc) (ls : Array Slot), va_S (fun q : Nat => s.heap.size ≤ q) s.heap H locs → lv_has ls 9 [(5, .int (nI 0)), (0, .ref sb)] → W p l e room_1 s m #[Value.ref sb] below meth c H locs 67 2920 Q (F0 m 1189 ls [])) : W p l e room_1 s m #[Value.ref sb] below meth c H locs 66 2914 Q (F0 m 639 ls []) := by
  obtain ⟨hx, hb, hml, hown, hts, hX, hbl, hK, hE, hln⟩ := CX
  refine lv_aload_n hx hb dlaw_639 rfl (lv_at hl 4 rfl) ?_
  refine lv_aload_n hx hb dlaw_640 rfl (lv_at hl 5 rfl) ?_
  refine lv_iload hx hb dlaw_641 (lv_at hl 0 rfl) ?_
  refine lv_iconst (v := nI 1) hx hb dlaw_643 (by decide +kernel) ?_
  refine lv_iadd hx hb dlaw_644 ?_
  refine rw_i (y := nI 1) rfl ?_
  refine rw_sld (k := 1) hx hb hX hbl (Nat.not_le.mpr hbl) hS (by omega) (by omega) dlaw_645 ?_
  refine lv_i2d hx hb dlaw_646 ?_
  refine lv_ldc2d (v := 4593671619917905920) hx hb hown (hts _ tw_877) dlaw_647 ?_
  refine lv_dmul hx hb dlaw_650 (fb_n (fb_w8 _) (by decide)) ?_
  refine lv_aload_n hx hb dlaw_651 rfl (lv_at hl 5 rfl) ?_
  refine lv_iload hx hb dlaw_652 (lv_at hl 0 rfl) ?_
  refine lv_iconst (v := nI 2) hx hb dlaw_654 (by decide +kernel) ?_
  refine lv_iadd hx hb dlaw_655 ?_
  refine rw_i (y := nI 2) rfl ?_
  refine rw_sld (k := 2) hx hb hX hbl (Nat.not_le.mpr hbl) hS (by omega) (by omega) dlaw_656 ?_
  refine lv_aload_n hx hb dlaw_657 rfl (lv_at hl 5 rfl) ?_
  refine lv_iload hx hb dlaw_658 (lv_at hl 0 rfl) ?_
  refine lv_iconst (v := nI 3) hx hb dlaw_660 (by decide +kernel) ?_
  refine lv_iadd hx hb dlaw_661 ?_
  refine rw_i (y := nI 3) rfl ?_
  refine rw_sld (k := 3) hx hb hX hbl (Nat.not_le.mpr hbl) hS (by omega) (by omega) dlaw_662 ?_
  refine lv_i2d hx hb dlaw_663 ?_
  refine lv_ldc2d (v := 4593671619917905920) hx hb hown (hts _ tw_877) dlaw_664 ?_
  refine lv_dmul hx hb dlaw_667 (fb_n (fb_w8 _) (by decide)) ?_
  have hP : va_P (dC, dI) vwCl ([(ob, .inl (k 4, 1, .inr (.inl o)))] ++ (wd k b (fun j => j) de_I0 (de_D0 X) ++ ([(od, .inl (k 1, 1, wd_d q))] ++ wm k b2 mo_I0 D2))) H := by rw [← lw_C]; exact hP
  have hD : va_D (fun q : Nat => s.heap.size ≤ q) ([(ob, .inl (k 4, 1, .inr (.inl o)))] ++ (wd k b (fun j => j) de_I0 (de_D0 X) ++ ([(od, .inl (k 1, 1, wd_d q))] ++ wm k b2 mo_I0 D2))) := by rw [← lw_C]; exact hD
  refine sg_i (sw_runS (ws' := []) (n := 4) (As := [.ref (b 0), .double (FP.dmul (FP.i2d (xs 1)) 4593671619917905920), .int (xs 2), .double (FP.dmul (FP.i2d (xs 3)) 4593671619917905920)]) (rest := []) ⟨hx, hb, hml, hown, hts⟩ (kLa_ways l hln dC dI k b (fun j => j) de_I0 (de_D0 X) _ (FP.dmul (FP.i2d (xs 1)) 4593671619917905920) (FP.dmul (FP.i2d (xs 3)) 4593671619917905920) (xs 2)) rfl rfl (Nat.le_of_ble_eq_true rfl) (Nat.le_of_ble_eq_true rfl) tw_490 tw_489 tw_0 tw_488 (by decide +kernel) ⟨ct_blind (ev := ev_L) ev_L.blind, ct_now (A := (fun q : Nat => s.heap.size ≤ q)) (ev := ev_L) (fun U hU hW9 => hE.to hW9 (st_law hS hU)) (sg_Pc hP) hK (sg_Dc hD)⟩ rfl rfl hl.1 rfl (lv_room (Nat.le_of_ble_eq_true rfl)) dlaw_668 ⟨Nat.le_of_ble_eq_true rfl, Nat.le_of_ble_eq_true rfl⟩) hP hD hS (fun _ h => h) (fun r u H locs hc hP hD hS => ?_)
  have hP : va_P (dC, dI) vwCl (lw k b (fun j => j) ((u).1) ((u).2) b2 mo_I0 D2 ob o od q) H := by rw [lw_C]; exact hP
  have hD : va_D (fun q : Nat => s.heap.size ≤ q) (lw k b (fun j => j) ((u).1) ((u).2) b2 mo_I0 D2 ob o od q) := by rw [lw_C]; exact hD
  refine lv_istore (lv' := [(6, .int r), (5, .int (nI 0)), (4, .ref od), (3, .ref ob), (2, .ref (b2 0)), (1, .ref (b 0)), (0, .ref sb)]) hx hb dlaw_671 hl (by decide) rfl (fun ls hl => ?_)
  refine lv_aload_n hx hb dlaw_673 rfl (lv_at hl 4 rfl) ?_
  refine lv_aload_n hx hb dlaw_674 rfl (lv_at hl 6 rfl) ?_
  refine lv_iload hx hb dlaw_675 (lv_at hl 1 rfl) ?_
  refine lv_iconst (v := nI 1) hx hb dlaw_677 (by decide +kernel) ?_
  refine lv_iadd hx hb dlaw_678 ?_
  refine rw_i (y := nI 1) rfl ?_
  refine rw_sld (k := 1) hx hb hX hbl (Nat.not_le.mpr hbl) hS (by omega) (by omega) dlaw_679 ?_
  refine lv_i2d hx hb dlaw_680 ?_
  refine lv_ldc2d (v := 4593671619917905920) hx hb hown (hts _ tw_877) dlaw_681 ?_
  refine lv_dmul hx hb dlaw_684 (fb_n (fb_w8 _) (by decide)) ?_
  refine lv_aload_n hx hb dlaw_685 rfl (lv_at hl 6 rfl) ?_
  refine lv_iload hx hb dlaw_686 (lv_at hl 1 rfl) ?_
  refine lv_iconst (v := nI 2) hx hb dlaw_688 (by decide +kernel) ?_
  refine lv_iadd hx hb dlaw_689 ?_
  refine rw_i (y := nI 2) rfl ?_
  refine rw_sld (k := 2) hx hb hX hbl (Nat.not_le.mpr hbl) hS (by omega) (by omega) dlaw_690 ?_
  refine lv_aload_n hx hb dlaw_691 rfl (lv_at hl 6 rfl) ?_
  refine lv_iload hx hb dlaw_692 (lv_at hl 1 rfl) ?_
  refine lv_iconst (v := nI 3) hx hb dlaw_694 (by decide +kernel) ?_
  refine lv_iadd hx hb dlaw_695 ?_
  refine rw_i (y := nI 3) rfl ?_
  refine rw_sld (k := 3) hx hb hX hbl (Nat.not_le.mpr hbl) hS (by omega) (by omega) dlaw_696 ?_
  refine lv_i2d hx hb dlaw_697 ?_
  refine lv_ldc2d (v := 4593671619917905920) hx hb hown (hts _ tw_877) dlaw_698 ?_
  refine lv_dmul hx hb dlaw_701 (fb_n (fb_w8 _) (by decide)) ?_
  have hP : va_P (dC, dI) vwCl (([(ob, .inl (k 4, 1, .inr (.inl o)))] ++ (wd k b (fun j => j) ((u).1) ((u).2) ++ [(od, .inl (k 1, 1, wd_d q))])) ++ (wm k b2 mo_I0 D2 ++ [])) H := by rw [← lw_M]; exact hP
  have hD : va_D (fun q : Nat => s.heap.size ≤ q) (([(ob, .inl (k 4, 1, .inr (.inl o)))] ++ (wd k b (fun j => j) ((u).1) ((u).2) ++ [(od, .inl (k 1, 1, wd_d q))])) ++ (wm k b2 mo_I0 D2 ++ [])) := by rw [← lw_M]; exact hD
  refine sg_v (va_runV (As := [.double (FP.dmul (FP.i2d (xs 1)) 4593671619917905920), .int (xs 2), .double (FP.dmul (FP.i2d (xs 3)) 4593671619917905920)]) (rest := []) ⟨hx, hb, hml, hown, hts⟩ (kMo_ways l dC dI k b2 mo_I0 D2 _ (FP.dmul (FP.i2d (xs 1)) 4593671619917905920) (FP.dmul (FP.i2d (xs 3)) 4593671619917905920) (xs 2)) (cwV 3 hts (gw_V tw_823 tw_824 tw_825 tw_9 tw_826) rfl rfl rfl (by decide +kernel) ⟨Nat.le_of_ble_eq_true rfl, Nat.le_of_ble_eq_true rfl⟩) ⟨ct_blind (ev := fun _ => True) (fun _ _ _ _ h => h), va_recv hK (sg_Pc hP) (ci := 8) (q0 := 0) rfl rfl, ct_now (A := (fun q : Nat => s.heap.size ≤ q)) (ev := fun _ => True) (fun _ _ _ => trivial) (sg_Pc hP) (hK.sub (tys' := mo_ty k) [0, 1] rfl) (sg_Dc hD)⟩ rfl rfl hl.1 rfl (lv_room (Nat.le_of_ble_eq_true rfl)) dlaw_702 ⟨Nat.le_of_ble_eq_true rfl, Nat.le_of_ble_eq_true rfl⟩) hP hD hS (fun _ h => h) (fun u2 H locs hm hP hD hS => ?_)
  have hP : va_P (dC, dI) vwCl (lw k b (fun j => j) ((u).1) ((u).2) b2 u2.1 u2.2 ob o od q) H := by rw [lw_M]; exact hP
  have hD : va_D (fun q : Nat => s.heap.size ≤ q) (lw k b (fun j => j) ((u).1) ((u).2) b2 u2.1 u2.2 ob o od q) := by rw [lw_M]; exact hD
  refine lv_aload_n hx hb dlaw_705 rfl (lv_at hl 4 rfl) ?_
  have hP : va_P (dC, dI) vwCl (([(ob, .inl (k 4, 1, .inr (.inl o)))] ++ (wd k b (fun j => j) ((u).1) ((u).2) ++ [(od, .inl (k 1, 1, wd_d q))])) ++ (wm k b2 u2.1 u2.2 ++ [])) H := by rw [← lw_M]; exact hP
  have hD : va_D (fun q : Nat => s.heap.size ≤ q) (([(ob, .inl (k 4, 1, .inr (.inl o)))] ++ (wd k b (fun j => j) ((u).1) ((u).2) ++ [(od, .inl (k 1, 1, wd_d q))])) ++ (wm k b2 u2.1 u2.2 ++ [])) := by rw [← lw_M]; exact hD
  refine sg_i (va_runV (As := []) (rest := []) ⟨hx, hb, hml, hown, hts⟩ (kMo_thrown l dC dI k b2 u2.1 u2.2 _ ) (cwV 0 hts (gw_V tw_729 tw_730 tw_731 tw_9 tw_732) rfl rfl rfl (by decide +kernel) ⟨Nat.le_of_ble_eq_true rfl, Nat.le_of_ble_eq_true rfl⟩) ⟨ct_blind (ev := fun _ => True) (fun _ _ _ _ h => h), va_recv hK (sg_Pc hP) (ci := 8) (q0 := 0) rfl rfl, ct_now (A := (fun q : Nat => s.heap.size ≤ q)) (ev := fun _ => True) (fun _ _ _ => trivial) (sg_Pc hP) (hK.sub (tys' := mo_ty k) [0, 1] rfl) (sg_Dc hD)⟩ rfl rfl hl.1 rfl (lv_room (Nat.le_of_ble_eq_true rfl)) dlaw_706 ⟨Nat.le_of_ble_eq_true rfl, Nat.le_of_ble_eq_true rfl⟩) hP hD hS (fun _ h => h) (fun r3 u3 H locs ht hP hD hS => ?_)
  have hP : va_P (dC, dI) vwCl (lw k b (fun j => j) ((u).1) ((u).2) b2 u2.1 u2.2 ob o od q) H := by rw [lw_M]; exact hP
  have hD : va_D (fun q : Nat => s.heap.size ≤ q) (lw k b (fun j => j) ((u).1) ((u).2) b2 u2.1 u2.2 ob o od q) := by rw [lw_M]; exact hD
  subst ht
  have hag := ag_ways (I := de_I0) (D := de_D0 X) (I2 := mo_I0) (D2 := D2) (FP.dmul (FP.i2d (xs 1)) 4593671619917905920) (FP.dmul (FP.i2d (xs 3)) 4593671619917905920) (xs 2)  hc hm
  refine rw_i (y := r) hag ?_
  refine lv_iload hx hb dlaw_709 (lv_at hl 0 rfl) ?_
  refine lv_icmp_eq (tgt := 716) hx hb dlaw_711 (by decide) (fun c711 => ?_) (fun c711 => ?_)
  · refine lv_goto (tgt := 1189) hx hb dlaw_716 (by decide) ?_
    exact K _ _ _ hS (lv_sub hl [1, 6] rfl)
  · exact absurd rfl c711
set_option maxHeartbeats 4000000 in
set_option maxRecDepth 100000 in
theorem ar_learn {p : Program} {e : Env} {s : State} {m : MethodId} {below : List Frame} {meth : Method} {c : Code} {Q : State → Prop} (l : Launch) {sb L : Nat} {xs : Nat → Int32} (hL4 : 4 ≤ L) (hLb : L ≤ 2048) {dC : Nat → ClassId} {dI : Nat → Nat → Nat} {k : Nat → ClassId} (CX : la_cx p l s m c sb L xs dC dI k) {b b2 : Nat → Nat} {X D2 : Nat → Nat → UInt64} {ob od : Nat} {o : Nat → Int64} {q : Nat → UInt64} (FX : la_fx X D2) {H : Heap} {locs : List Loc} {ls : Array Slot} (hP : va_P (dC, dI) vwCl (lw k b (fun j => j) de_I0 (de_D0 X) b2 mo_I0 D2 ob o od q) H) (hD : va_D (fun q : Nat => s.heap.size ≤ q) (lw k b (fun j => j) de_I0 (de_D0 X) b2 mo_I0 D2 ob o od q)) (hS : va_S (fun q : Nat => s.heap.size ≤ q) s.heap H locs) (hl : lv_has ls 9 [(5, .int (nI 0)), (4, .ref od), (3, .ref ob), (2, .ref (b2 0)), (1, .ref (b 0)), (0, .ref sb)]) (K : ∀ (H : Heap) (locs : List Loc) (ls : Array Slot), va_S (fun q : Nat => s.heap.size ≤ q) s.heap H locs → lv_has ls 9 [(5, .int (nI 0)), (0, .ref sb)] → W p l e room_1 s m #[Value.ref sb] below meth c H locs 67 2920 Q (F0 m 1189 ls [])) : W p l e room_1 s m #[Value.ref sb] below meth c H locs 66 2914 Q (F0 m 719 ls []) := by
  obtain ⟨hx, hb, hml, hown, hts, hX, hbl, hK, hE, hln⟩ := CX
  refine lv_aload_n hx hb dlaw_719 rfl (lv_at hl 4 rfl) ?_
  refine lv_aload_n hx hb dlaw_720 rfl (lv_at hl 5 rfl) ?_
  refine lv_iload hx hb dlaw_721 (lv_at hl 0 rfl) ?_
  refine lv_iconst (v := nI 1) hx hb dlaw_723 (by decide +kernel) ?_
  refine lv_iadd hx hb dlaw_724 ?_
  refine rw_i (y := nI 1) rfl ?_
  refine rw_sld (k := 1) hx hb hX hbl (Nat.not_le.mpr hbl) hS (by omega) (by omega) dlaw_725 ?_
  refine lv_aload_n hx hb dlaw_726 rfl (lv_at hl 5 rfl) ?_
  refine lv_iload hx hb dlaw_727 (lv_at hl 0 rfl) ?_
  refine lv_iconst (v := nI 2) hx hb dlaw_729 (by decide +kernel) ?_
  refine lv_iadd hx hb dlaw_730 ?_
  refine rw_i (y := nI 2) rfl ?_
  refine rw_sld (k := 2) hx hb hX hbl (Nat.not_le.mpr hbl) hS (by omega) (by omega) dlaw_731 ?_
  refine lv_aload_n hx hb dlaw_732 rfl (lv_at hl 5 rfl) ?_
  refine lv_iload hx hb dlaw_733 (lv_at hl 0 rfl) ?_
  refine lv_iconst (v := nI 3) hx hb dlaw_735 (by decide +kernel) ?_
  refine lv_iadd hx hb dlaw_736 ?_
  refine rw_i (y := nI 3) rfl ?_
  refine rw_sld (k := 3) hx hb hX hbl (Nat.not_le.mpr hbl) hS (by omega) (by omega) dlaw_737 ?_
  refine lv_aload_n hx hb dlaw_738 rfl (lv_at hl 2 rfl) ?_
  have hP : va_P (dC, dI) vwCl ([] ++ (((ob, .inl (k 4, 1, .inr (.inl o))) :: wd k b (fun j => j) de_I0 (de_D0 X)) ++ ([(od, .inl (k 1, 1, wd_d q))] ++ wm k b2 mo_I0 D2))) H := by rw [← lw_L]; exact hP
  have hD : va_D (fun q : Nat => s.heap.size ≤ q) ([] ++ (((ob, .inl (k 4, 1, .inr (.inl o))) :: wd k b (fun j => j) de_I0 (de_D0 X)) ++ ([(od, .inl (k 1, 1, wd_d q))] ++ wm k b2 mo_I0 D2))) := by rw [← lw_L]; exact hD
  refine sg_i (sw_runS (ws' := []) (n := 5) (As := [.ref (b 0), .int (xs 1), .int (xs 2), .int (xs 3), .ref ob]) (rest := []) ⟨hx, hb, hml, hown, hts⟩ (kLa_learn0 l hln dC dI k b (fun j => j) de_I0 (de_D0 X) _ ob o (xs 1) (xs 2) (xs 3) 0 (by decide) rfl) rfl rfl (Nat.le_of_ble_eq_true rfl) (Nat.le_of_ble_eq_true rfl) tw_498 tw_497 tw_0 tw_496 (by decide +kernel) ⟨ct_blind (ev := ev_L) ev_L.blind, ct_now (A := (fun q : Nat => s.heap.size ≤ q)) (ev := ev_L) (fun U hU hW9 => hE.to hW9 (st_law hS hU)) (sg_Pc hP) hK (sg_Dc hD)⟩ rfl rfl hl.1 rfl (lv_room (Nat.le_of_ble_eq_true rfl)) dlaw_739 ⟨Nat.le_of_ble_eq_true rfl, Nat.le_of_ble_eq_true rfl⟩) hP hD hS (fun _ h => h) (fun r u H locs hc hP hD hS => ?_)
  have hP : va_P (dC, dI) vwCl (lw k b (fun j => j) u.2 (de_D0 X) b2 mo_I0 D2 ob u.1 od q) H := by rw [lw_L]; exact hP
  have hD : va_D (fun q : Nat => s.heap.size ≤ q) (lw k b (fun j => j) u.2 (de_D0 X) b2 mo_I0 D2 ob u.1 od q) := by rw [lw_L]; exact hD
  refine lv_istore (lv' := [(6, .int r), (5, .int (nI 0)), (4, .ref od), (3, .ref ob), (2, .ref (b2 0)), (1, .ref (b 0)), (0, .ref sb)]) hx hb dlaw_742 hl (by decide) rfl (fun ls hl => ?_)
  refine lv_aload_n hx hb dlaw_744 rfl (lv_at hl 4 rfl) ?_
  refine lv_aload_n hx hb dlaw_745 rfl (lv_at hl 6 rfl) ?_
  refine lv_iload hx hb dlaw_746 (lv_at hl 1 rfl) ?_
  refine lv_iconst (v := nI 1) hx hb dlaw_748 (by decide +kernel) ?_
  refine lv_iadd hx hb dlaw_749 ?_
  refine rw_i (y := nI 1) rfl ?_
  refine rw_sld (k := 1) hx hb hX hbl (Nat.not_le.mpr hbl) hS (by omega) (by omega) dlaw_750 ?_
  refine lv_aload_n hx hb dlaw_751 rfl (lv_at hl 6 rfl) ?_
  refine lv_iload hx hb dlaw_752 (lv_at hl 1 rfl) ?_
  refine lv_iconst (v := nI 2) hx hb dlaw_754 (by decide +kernel) ?_
  refine lv_iadd hx hb dlaw_755 ?_
  refine rw_i (y := nI 2) rfl ?_
  refine rw_sld (k := 2) hx hb hX hbl (Nat.not_le.mpr hbl) hS (by omega) (by omega) dlaw_756 ?_
  refine lv_aload_n hx hb dlaw_757 rfl (lv_at hl 6 rfl) ?_
  refine lv_iload hx hb dlaw_758 (lv_at hl 1 rfl) ?_
  refine lv_iconst (v := nI 3) hx hb dlaw_760 (by decide +kernel) ?_
  refine lv_iadd hx hb dlaw_761 ?_
  refine rw_i (y := nI 3) rfl ?_
  refine rw_sld (k := 3) hx hb hX hbl (Nat.not_le.mpr hbl) hS (by omega) (by omega) dlaw_762 ?_
  have hP : va_P (dC, dI) vwCl (([(ob, .inl (k 4, 1, .inr (.inl u.1)))] ++ (wd k b (fun j => j) u.2 (de_D0 X) ++ [(od, .inl (k 1, 1, wd_d q))])) ++ (wm k b2 mo_I0 D2 ++ [])) H := by rw [← lw_M]; exact hP
  have hD : va_D (fun q : Nat => s.heap.size ≤ q) (([(ob, .inl (k 4, 1, .inr (.inl u.1)))] ++ (wd k b (fun j => j) u.2 (de_D0 X) ++ [(od, .inl (k 1, 1, wd_d q))])) ++ (wm k b2 mo_I0 D2 ++ [])) := by rw [← lw_M]; exact hD
  refine sg_i (va_runV (As := [.int (xs 1), .int (xs 2), .int (xs 3)]) (rest := []) ⟨hx, hb, hml, hown, hts⟩ (kMo_learn0 l dC dI k b2 mo_I0 D2 _ (xs 1) (xs 2) (xs 3) 0 (by decide) rfl) (cwV 3 hts (gw_V tw_828 tw_829 tw_830 tw_9 tw_831) rfl rfl rfl (by decide +kernel) ⟨Nat.le_of_ble_eq_true rfl, Nat.le_of_ble_eq_true rfl⟩) ⟨ct_blind (ev := fun _ => True) (fun _ _ _ _ h => h), va_recv hK (sg_Pc hP) (ci := 8) (q0 := 0) rfl rfl, ct_now (A := (fun q : Nat => s.heap.size ≤ q)) (ev := fun _ => True) (fun _ _ _ => trivial) (sg_Pc hP) (hK.sub (tys' := mo_ty k) [0, 1] rfl) (sg_Dc hD)⟩ rfl rfl hl.1 rfl (lv_room (Nat.le_of_ble_eq_true rfl)) dlaw_763 ⟨Nat.le_of_ble_eq_true rfl, Nat.le_of_ble_eq_true rfl⟩) hP hD hS (fun _ h => h) (fun r2 u2 H locs hm hP hD hS => ?_)
  have hP : va_P (dC, dI) vwCl (lw k b (fun j => j) u.2 (de_D0 X) b2 u2 D2 ob u.1 od q) H := by rw [lw_M]; exact hP
  have hD : va_D (fun q : Nat => s.heap.size ≤ q) (lw k b (fun j => j) u.2 (de_D0 X) b2 u2 D2 ob u.1 od q) := by rw [lw_M]; exact hD
  refine lv_istore (lv' := [(7, .int r2), (6, .int r), (5, .int (nI 0)), (4, .ref od), (3, .ref ob), (2, .ref (b2 0)), (1, .ref (b 0)), (0, .ref sb)]) hx hb dlaw_766 hl (by decide) rfl (fun ls hl => ?_)
  refine lv_aload_n hx hb dlaw_768 rfl (lv_at hl 5 rfl) ?_
  have hP : va_P (dC, dI) vwCl (([(ob, .inl (k 4, 1, .inr (.inl u.1)))] ++ (wd k b (fun j => j) u.2 (de_D0 X) ++ [(od, .inl (k 1, 1, wd_d q))])) ++ (wm k b2 u2 D2 ++ [])) H := by rw [← lw_M]; exact hP
  have hD : va_D (fun q : Nat => s.heap.size ≤ q) (([(ob, .inl (k 4, 1, .inr (.inl u.1)))] ++ (wd k b (fun j => j) u.2 (de_D0 X) ++ [(od, .inl (k 1, 1, wd_d q))])) ++ (wm k b2 u2 D2 ++ [])) := by rw [← lw_M]; exact hD
  refine sg_i (va_runV (As := []) (rest := []) ⟨hx, hb, hml, hown, hts⟩ (kMo_thrown l dC dI k b2 u2 D2 _ ) (cwV 0 hts (gw_V tw_729 tw_730 tw_731 tw_9 tw_732) rfl rfl rfl (by decide +kernel) ⟨Nat.le_of_ble_eq_true rfl, Nat.le_of_ble_eq_true rfl⟩) ⟨ct_blind (ev := fun _ => True) (fun _ _ _ _ h => h), va_recv hK (sg_Pc hP) (ci := 8) (q0 := 0) rfl rfl, ct_now (A := (fun q : Nat => s.heap.size ≤ q)) (ev := fun _ => True) (fun _ _ _ => trivial) (sg_Pc hP) (hK.sub (tys' := mo_ty k) [0, 1] rfl) (sg_Dc hD)⟩ rfl rfl hl.1 rfl (lv_room (Nat.le_of_ble_eq_true rfl)) dlaw_769 ⟨Nat.le_of_ble_eq_true rfl, Nat.le_of_ble_eq_true rfl⟩) hP hD hS (fun _ h => h) (fun r3 u3 H locs ht hP hD hS => ?_)
  have hP : va_P (dC, dI) vwCl (lw k b (fun j => j) u.2 (de_D0 X) b2 u2 D2 ob u.1 od q) H := by rw [lw_M]; exact hP
  have hD : va_D (fun q : Nat => s.heap.size ≤ q) (lw k b (fun j => j) u.2 (de_D0 X) b2 u2 D2 ob u.1 od q) := by rw [lw_M]; exact hD
  subst ht
  have hag := ag_learn (I := de_I0) (D := de_D0 X) (I2 := mo_I0) (D2 := D2) (r2 := r2) (xs 1) (xs 2) (xs 3) 0 (by decide) rfl  hc hm
  refine rw_i (y := r) hag.1 ?_
  refine lv_iload hx hb dlaw_772 (lv_at hl 1 rfl) ?_
  refine lv_icmp_eq (tgt := 779) hx hb dlaw_774 (by decide) (fun c774 => ?_) (fun c774 => ?_)
  · refine lv_iload hx hb dlaw_779 (lv_at hl 1 rfl) ?_
    refine lv_if_ne (tgt := 796) hx hb dlaw_781 (by decide) (fun c781 => ?_) (fun c781 => ?_)
    · refine lv_goto (tgt := 1189) hx hb dlaw_796 (by decide) ?_
      exact K _ _ _ hS (lv_sub hl [2, 7] rfl)
    · have hz := hag.2 (show r = nI 0 from c781)
      refine lv_aload_n hx hb dlaw_784 rfl (lv_at hl 4 rfl) ?_
      refine lv_iconst (v := nI 0) hx hb dlaw_785 (by decide +kernel) ?_
      refine rw_ald_l (k := 0) hx hb hK hP 0 4 rfl rfl (by decide) (by decide) dlaw_786 ?_
      refine rw_l (y := r2.toInt64) hz ?_
      refine lv_iload hx hb dlaw_787 (lv_at hl 0 rfl) ?_
      refine lv_i2l (v := r2.toInt64) hx hb dlaw_789 rfl ?_
      refine W.lcmp hx hb dlaw_790 ?_
      refine lv_if_eq (tgt := 796) hx hb dlaw_791 (by decide) (fun c791 => ?_) (fun c791 => ?_)
      · refine lv_goto (tgt := 1189) hx hb dlaw_796 (by decide) ?_
        exact K _ _ _ hS (lv_sub hl [2, 7] rfl)
      · exact absurd ((lg_cmp_eq _ _).mpr rfl) c791
  · exact absurd rfl c774
set_option maxHeartbeats 4000000 in
set_option maxRecDepth 100000 in
theorem ar_forget {p : Program} {e : Env} {s : State} {m : MethodId} {below : List Frame} {meth : Method} {c : Code} {Q : State → Prop} (l : Launch) {sb L : Nat} {xs : Nat → Int32} (hL4 : 4 ≤ L) (hLb : L ≤ 2048) {dC : Nat → ClassId} {dI : Nat → Nat → Nat} {k : Nat → ClassId} (CX : la_cx p l s m c sb L xs dC dI k) {b b2 : Nat → Nat} {X D2 : Nat → Nat → UInt64} {ob od : Nat} {o : Nat → Int64} {q : Nat → UInt64} (FX : la_fx X D2) {H : Heap} {locs : List Loc} {ls : Array Slot} (hP : va_P (dC, dI) vwCl (lw k b (fun j => j) de_I0 (de_D0 X) b2 mo_I0 D2 ob o od q) H) (hD : va_D (fun q : Nat => s.heap.size ≤ q) (lw k b (fun j => j) de_I0 (de_D0 X) b2 mo_I0 D2 ob o od q)) (hS : va_S (fun q : Nat => s.heap.size ≤ q) s.heap H locs) (hl : lv_has ls 9 [(5, .int (nI 0)), (4, .ref od), (3, .ref ob), (2, .ref (b2 0)), (1, .ref (b 0)), (0, .ref sb)]) (K : ∀ (H : Heap) (locs : List Loc) (ls : Array Slot), va_S (fun q : Nat => s.heap.size ≤ q) s.heap H locs → lv_has ls 9 [(5, .int (nI 0)), (0, .ref sb)] → W p l e room_1 s m #[Value.ref sb] below meth c H locs 67 2920 Q (F0 m 1189 ls [])) : W p l e room_1 s m #[Value.ref sb] below meth c H locs 66 2914 Q (F0 m 799 ls []) := by
  obtain ⟨hx, hb, hml, hown, hts, hX, hbl, hK, hE, hln⟩ := CX
  refine lv_aload_n hx hb dlaw_799 rfl (lv_at hl 4 rfl) ?_
  refine lv_aload_n hx hb dlaw_800 rfl (lv_at hl 5 rfl) ?_
  refine lv_iload hx hb dlaw_801 (lv_at hl 0 rfl) ?_
  refine lv_iconst (v := nI 1) hx hb dlaw_803 (by decide +kernel) ?_
  refine lv_iadd hx hb dlaw_804 ?_
  refine rw_i (y := nI 1) rfl ?_
  refine rw_sld (k := 1) hx hb hX hbl (Nat.not_le.mpr hbl) hS (by omega) (by omega) dlaw_805 ?_
  refine lv_aload_n hx hb dlaw_806 rfl (lv_at hl 2 rfl) ?_
  have hP : va_P (dC, dI) vwCl ([] ++ (((ob, .inl (k 4, 1, .inr (.inl o))) :: wd k b (fun j => j) de_I0 (de_D0 X)) ++ ([(od, .inl (k 1, 1, wd_d q))] ++ wm k b2 mo_I0 D2))) H := by rw [← lw_L]; exact hP
  have hD : va_D (fun q : Nat => s.heap.size ≤ q) ([] ++ (((ob, .inl (k 4, 1, .inr (.inl o))) :: wd k b (fun j => j) de_I0 (de_D0 X)) ++ ([(od, .inl (k 1, 1, wd_d q))] ++ wm k b2 mo_I0 D2))) := by rw [← lw_L]; exact hD
  refine sg_i (sw_runS (ws' := []) (n := 3) (As := [.ref (b 0), .int (xs 1), .ref ob]) (rest := []) ⟨hx, hb, hml, hown, hts⟩ (kLa_forget0 l hln dC dI k b (fun j => j) de_I0 (de_D0 X) _ ob o (xs 1) rfl) rfl rfl (Nat.le_of_ble_eq_true rfl) (Nat.le_of_ble_eq_true rfl) tw_514 tw_513 tw_0 tw_512 (by decide +kernel) ⟨ct_blind (ev := ev_L) ev_L.blind, ct_now (A := (fun q : Nat => s.heap.size ≤ q)) (ev := ev_L) (fun U hU hW9 => hE.to hW9 (st_law hS hU)) (sg_Pc hP) hK (sg_Dc hD)⟩ rfl rfl hl.1 rfl (lv_room (Nat.le_of_ble_eq_true rfl)) dlaw_807 ⟨Nat.le_of_ble_eq_true rfl, Nat.le_of_ble_eq_true rfl⟩) hP hD hS (fun _ h => h) (fun r u H locs hc hP hD hS => ?_)
  have hP : va_P (dC, dI) vwCl (lw k b (fun j => j) u.2 (de_D0 X) b2 mo_I0 D2 ob u.1 od q) H := by rw [lw_L]; exact hP
  have hD : va_D (fun q : Nat => s.heap.size ≤ q) (lw k b (fun j => j) u.2 (de_D0 X) b2 mo_I0 D2 ob u.1 od q) := by rw [lw_L]; exact hD
  refine lv_istore (lv' := [(6, .int r), (5, .int (nI 0)), (4, .ref od), (3, .ref ob), (2, .ref (b2 0)), (1, .ref (b 0)), (0, .ref sb)]) hx hb dlaw_810 hl (by decide) rfl (fun ls hl => ?_)
  refine lv_aload_n hx hb dlaw_812 rfl (lv_at hl 4 rfl) ?_
  refine lv_aload_n hx hb dlaw_813 rfl (lv_at hl 6 rfl) ?_
  refine lv_iload hx hb dlaw_814 (lv_at hl 1 rfl) ?_
  refine lv_iconst (v := nI 1) hx hb dlaw_816 (by decide +kernel) ?_
  refine lv_iadd hx hb dlaw_817 ?_
  refine rw_i (y := nI 1) rfl ?_
  refine rw_sld (k := 1) hx hb hX hbl (Nat.not_le.mpr hbl) hS (by omega) (by omega) dlaw_818 ?_
  have hP : va_P (dC, dI) vwCl (([(ob, .inl (k 4, 1, .inr (.inl u.1)))] ++ (wd k b (fun j => j) u.2 (de_D0 X) ++ [(od, .inl (k 1, 1, wd_d q))])) ++ (wm k b2 mo_I0 D2 ++ [])) H := by rw [← lw_M]; exact hP
  have hD : va_D (fun q : Nat => s.heap.size ≤ q) (([(ob, .inl (k 4, 1, .inr (.inl u.1)))] ++ (wd k b (fun j => j) u.2 (de_D0 X) ++ [(od, .inl (k 1, 1, wd_d q))])) ++ (wm k b2 mo_I0 D2 ++ [])) := by rw [← lw_M]; exact hD
  refine sg_i (va_runV (As := [.int (xs 1)]) (rest := []) ⟨hx, hb, hml, hown, hts⟩ (kMo_forget0 l dC dI k b2 mo_I0 D2 _ (xs 1) rfl) (cwV 1 hts (gw_V tw_834 tw_835 tw_836 tw_9 tw_837) rfl rfl rfl (by decide +kernel) ⟨Nat.le_of_ble_eq_true rfl, Nat.le_of_ble_eq_true rfl⟩) ⟨ct_blind (ev := fun _ => True) (fun _ _ _ _ h => h), va_recv hK (sg_Pc hP) (ci := 8) (q0 := 0) rfl rfl, ct_now (A := (fun q : Nat => s.heap.size ≤ q)) (ev := fun _ => True) (fun _ _ _ => trivial) (sg_Pc hP) (hK.sub (tys' := mo_ty k) [0, 1] rfl) (sg_Dc hD)⟩ rfl rfl hl.1 rfl (lv_room (Nat.le_of_ble_eq_true rfl)) dlaw_819 ⟨Nat.le_of_ble_eq_true rfl, Nat.le_of_ble_eq_true rfl⟩) hP hD hS (fun _ h => h) (fun r2 u2 H locs hm hP hD hS => ?_)
  have hP : va_P (dC, dI) vwCl (lw k b (fun j => j) u.2 (de_D0 X) b2 u2 D2 ob u.1 od q) H := by rw [lw_M]; exact hP
  have hD : va_D (fun q : Nat => s.heap.size ≤ q) (lw k b (fun j => j) u.2 (de_D0 X) b2 u2 D2 ob u.1 od q) := by rw [lw_M]; exact hD
  refine lv_istore (lv' := [(7, .int r2), (6, .int r), (5, .int (nI 0)), (4, .ref od), (3, .ref ob), (2, .ref (b2 0)), (1, .ref (b 0)), (0, .ref sb)]) hx hb dlaw_822 hl (by decide) rfl (fun ls hl => ?_)
  refine lv_aload_n hx hb dlaw_824 rfl (lv_at hl 5 rfl) ?_
  have hP : va_P (dC, dI) vwCl (([(ob, .inl (k 4, 1, .inr (.inl u.1)))] ++ (wd k b (fun j => j) u.2 (de_D0 X) ++ [(od, .inl (k 1, 1, wd_d q))])) ++ (wm k b2 u2 D2 ++ [])) H := by rw [← lw_M]; exact hP
  have hD : va_D (fun q : Nat => s.heap.size ≤ q) (([(ob, .inl (k 4, 1, .inr (.inl u.1)))] ++ (wd k b (fun j => j) u.2 (de_D0 X) ++ [(od, .inl (k 1, 1, wd_d q))])) ++ (wm k b2 u2 D2 ++ [])) := by rw [← lw_M]; exact hD
  refine sg_i (va_runV (As := []) (rest := []) ⟨hx, hb, hml, hown, hts⟩ (kMo_thrown l dC dI k b2 u2 D2 _ ) (cwV 0 hts (gw_V tw_729 tw_730 tw_731 tw_9 tw_732) rfl rfl rfl (by decide +kernel) ⟨Nat.le_of_ble_eq_true rfl, Nat.le_of_ble_eq_true rfl⟩) ⟨ct_blind (ev := fun _ => True) (fun _ _ _ _ h => h), va_recv hK (sg_Pc hP) (ci := 8) (q0 := 0) rfl rfl, ct_now (A := (fun q : Nat => s.heap.size ≤ q)) (ev := fun _ => True) (fun _ _ _ => trivial) (sg_Pc hP) (hK.sub (tys' := mo_ty k) [0, 1] rfl) (sg_Dc hD)⟩ rfl rfl hl.1 rfl (lv_room (Nat.le_of_ble_eq_true rfl)) dlaw_825 ⟨Nat.le_of_ble_eq_true rfl, Nat.le_of_ble_eq_true rfl⟩) hP hD hS (fun _ h => h) (fun r3 u3 H locs ht hP hD hS => ?_)
  have hP : va_P (dC, dI) vwCl (lw k b (fun j => j) u.2 (de_D0 X) b2 u2 D2 ob u.1 od q) H := by rw [lw_M]; exact hP
  have hD : va_D (fun q : Nat => s.heap.size ≤ q) (lw k b (fun j => j) u.2 (de_D0 X) b2 u2 D2 ob u.1 od q) := by rw [lw_M]; exact hD
  subst ht
  have hag := ag_forget (I := de_I0) (D := de_D0 X) (I2 := mo_I0) (D2 := D2) (r2 := r2) (xs 1) rfl  hc hm
  refine rw_i (y := r) hag.1 ?_
  refine lv_iload hx hb dlaw_828 (lv_at hl 1 rfl) ?_
  refine lv_icmp_eq (tgt := 835) hx hb dlaw_830 (by decide) (fun c830 => ?_) (fun c830 => ?_)
  · refine lv_iload hx hb dlaw_835 (lv_at hl 1 rfl) ?_
    refine lv_if_ne (tgt := 852) hx hb dlaw_837 (by decide) (fun c837 => ?_) (fun c837 => ?_)
    · refine lv_goto (tgt := 1189) hx hb dlaw_852 (by decide) ?_
      exact K _ _ _ hS (lv_sub hl [2, 7] rfl)
    · have hz := hag.2 (show r = nI 0 from c837)
      refine lv_aload_n hx hb dlaw_840 rfl (lv_at hl 4 rfl) ?_
      refine lv_iconst (v := nI 0) hx hb dlaw_841 (by decide +kernel) ?_
      refine rw_ald_l (k := 0) hx hb hK hP 0 4 rfl rfl (by decide) (by decide) dlaw_842 ?_
      refine rw_l (y := r2.toInt64) hz ?_
      refine lv_iload hx hb dlaw_843 (lv_at hl 0 rfl) ?_
      refine lv_i2l (v := r2.toInt64) hx hb dlaw_845 rfl ?_
      refine W.lcmp hx hb dlaw_846 ?_
      refine lv_if_eq (tgt := 852) hx hb dlaw_847 (by decide) (fun c847 => ?_) (fun c847 => ?_)
      · refine lv_goto (tgt := 1189) hx hb dlaw_852 (by decide) ?_
        exact K _ _ _ hS (lv_sub hl [2, 7] rfl)
      · exact absurd ((lg_cmp_eq _ _).mpr rfl) c847
  · exact absurd rfl c830
set_option maxHeartbeats 4000000 in
set_option maxRecDepth 100000 in
theorem ar_warp {p : Program} {e : Env} {s : State} {m : MethodId} {below : List Frame} {meth : Method} {c : Code} {Q : State → Prop} (l : Launch) {sb L : Nat} {xs : Nat → Int32} (hL4 : 4 ≤ L) (hLb : L ≤ 2048) {dC : Nat → ClassId} {dI : Nat → Nat → Nat} {k : Nat → ClassId} (CX : la_cx p l s m c sb L xs dC dI k) {b b2 : Nat → Nat} {X D2 : Nat → Nat → UInt64} {ob od : Nat} {o : Nat → Int64} {q : Nat → UInt64} (FX : la_fx X D2) {H : Heap} {locs : List Loc} {ls : Array Slot} (hP : va_P (dC, dI) vwCl (lw k b (fun j => j) de_I0 (de_D0 X) b2 mo_I0 D2 ob o od q) H) (hD : va_D (fun q : Nat => s.heap.size ≤ q) (lw k b (fun j => j) de_I0 (de_D0 X) b2 mo_I0 D2 ob o od q)) (hS : va_S (fun q : Nat => s.heap.size ≤ q) s.heap H locs) (hl : lv_has ls 9 [(5, .int (nI 0)), (4, .ref od), (3, .ref ob), (2, .ref (b2 0)), (1, .ref (b 0)), (0, .ref sb)]) (K : ∀ (H : Heap) (locs : List Loc) (ls : Array Slot), va_S (fun q : Nat => s.heap.size ≤ q) s.heap H locs → lv_has ls 9 [(5, .int (nI 0)), (0, .ref sb)] → W p l e room_1 s m #[Value.ref sb] below meth c H locs 67 2920 Q (F0 m 1189 ls [])) : W p l e room_1 s m #[Value.ref sb] below meth c H locs 66 2914 Q (F0 m 855 ls []) := by
  obtain ⟨hx, hb, hml, hown, hts, hX, hbl, hK, hE, hln⟩ := CX
  refine lv_aload_n hx hb dlaw_855 rfl (lv_at hl 4 rfl) ?_
  refine lv_aload_n hx hb dlaw_856 rfl (lv_at hl 5 rfl) ?_
  refine lv_iload hx hb dlaw_857 (lv_at hl 0 rfl) ?_
  refine lv_iconst (v := nI 1) hx hb dlaw_859 (by decide +kernel) ?_
  refine lv_iadd hx hb dlaw_860 ?_
  refine rw_i (y := nI 1) rfl ?_
  refine rw_sld (k := 1) hx hb hX hbl (Nat.not_le.mpr hbl) hS (by omega) (by omega) dlaw_861 ?_
  refine lv_aload_n hx hb dlaw_862 rfl (lv_at hl 5 rfl) ?_
  refine lv_iload hx hb dlaw_863 (lv_at hl 0 rfl) ?_
  refine lv_iconst (v := nI 2) hx hb dlaw_865 (by decide +kernel) ?_
  refine lv_iadd hx hb dlaw_866 ?_
  refine rw_i (y := nI 2) rfl ?_
  refine rw_sld (k := 2) hx hb hX hbl (Nat.not_le.mpr hbl) hS (by omega) (by omega) dlaw_867 ?_
  refine lv_aload hx hb dlaw_868 (lv_at hl 1 rfl) ?_
  have hP : va_P (dC, dI) vwCl ([(ob, .inl (k 4, 1, .inr (.inl o)))] ++ ((wd k b (fun j => j) de_I0 (de_D0 X) ++ [(od, .inl (k 1, 1, wd_d q))]) ++ wm k b2 mo_I0 D2)) H := by rw [← lw_D]; exact hP
  have hD : va_D (fun q : Nat => s.heap.size ≤ q) ([(ob, .inl (k 4, 1, .inr (.inl o)))] ++ ((wd k b (fun j => j) de_I0 (de_D0 X) ++ [(od, .inl (k 1, 1, wd_d q))]) ++ wm k b2 mo_I0 D2)) := by rw [← lw_D]; exact hD
  refine sg_i (sw_runS (ws' := []) (n := 4) (As := [.ref (b 0), .int (xs 1), .int (xs 2), .ref od]) (rest := []) ⟨hx, hb, hml, hown, hts⟩ (kLa_warp0 l hln dC dI k b (fun j => j) de_I0 (de_D0 X) _ od q (xs 1) (xs 2) rfl) rfl rfl (Nat.le_of_ble_eq_true rfl) (Nat.le_of_ble_eq_true rfl) tw_542 tw_541 tw_0 tw_540 (by decide +kernel) ⟨ct_blind (ev := ev_L) ev_L.blind, ct_now (A := (fun q : Nat => s.heap.size ≤ q)) (ev := ev_L) (fun U hU hW9 => hE.to hW9 (st_law hS hU)) (sg_Pc hP) hK (sg_Dc hD)⟩ rfl rfl hl.1 rfl (lv_room (Nat.le_of_ble_eq_true rfl)) dlaw_870 ⟨Nat.le_of_ble_eq_true rfl, Nat.le_of_ble_eq_true rfl⟩) hP hD hS (fun _ h => h) (fun r u H locs hc hP hD hS => ?_)
  have hP : va_P (dC, dI) vwCl (lw k b (fun j => j) u.2 (de_D0 X) b2 mo_I0 D2 ob o od u.1) H := by rw [lw_D]; exact hP
  have hD : va_D (fun q : Nat => s.heap.size ≤ q) (lw k b (fun j => j) u.2 (de_D0 X) b2 mo_I0 D2 ob o od u.1) := by rw [lw_D]; exact hD
  refine lv_istore (lv' := [(6, .int r), (5, .int (nI 0)), (4, .ref od), (3, .ref ob), (2, .ref (b2 0)), (1, .ref (b 0)), (0, .ref sb)]) hx hb dlaw_873 hl (by decide) rfl (fun ls hl => ?_)
  refine lv_aload_n hx hb dlaw_875 rfl (lv_at hl 4 rfl) ?_
  refine lv_aload_n hx hb dlaw_876 rfl (lv_at hl 6 rfl) ?_
  refine lv_iload hx hb dlaw_877 (lv_at hl 1 rfl) ?_
  refine lv_iconst (v := nI 1) hx hb dlaw_879 (by decide +kernel) ?_
  refine lv_iadd hx hb dlaw_880 ?_
  refine rw_i (y := nI 1) rfl ?_
  refine rw_sld (k := 1) hx hb hX hbl (Nat.not_le.mpr hbl) hS (by omega) (by omega) dlaw_881 ?_
  refine lv_aload_n hx hb dlaw_882 rfl (lv_at hl 6 rfl) ?_
  refine lv_iload hx hb dlaw_883 (lv_at hl 1 rfl) ?_
  refine lv_iconst (v := nI 2) hx hb dlaw_885 (by decide +kernel) ?_
  refine lv_iadd hx hb dlaw_886 ?_
  refine rw_i (y := nI 2) rfl ?_
  refine rw_sld (k := 2) hx hb hX hbl (Nat.not_le.mpr hbl) hS (by omega) (by omega) dlaw_887 ?_
  have hP : va_P (dC, dI) vwCl (([(ob, .inl (k 4, 1, .inr (.inl o)))] ++ (wd k b (fun j => j) u.2 (de_D0 X) ++ [(od, .inl (k 1, 1, wd_d u.1))])) ++ (wm k b2 mo_I0 D2 ++ [])) H := by rw [← lw_M]; exact hP
  have hD : va_D (fun q : Nat => s.heap.size ≤ q) (([(ob, .inl (k 4, 1, .inr (.inl o)))] ++ (wd k b (fun j => j) u.2 (de_D0 X) ++ [(od, .inl (k 1, 1, wd_d u.1))])) ++ (wm k b2 mo_I0 D2 ++ [])) := by rw [← lw_M]; exact hD
  refine sg_d (va_runV (As := [.int (xs 1), .int (xs 2)]) (rest := []) ⟨hx, hb, hml, hown, hts⟩ (kMo_warp0 l dC dI k b2 mo_I0 D2 _ (xs 1) (xs 2) rfl) (cwV 2 hts (gw_V tw_838 tw_839 tw_840 tw_9 tw_841) rfl rfl rfl (by decide +kernel) ⟨Nat.le_of_ble_eq_true rfl, Nat.le_of_ble_eq_true rfl⟩) ⟨ct_blind (ev := fun _ => True) (fun _ _ _ _ h => h), va_recv hK (sg_Pc hP) (ci := 8) (q0 := 0) rfl rfl, ct_now (A := (fun q : Nat => s.heap.size ≤ q)) (ev := fun _ => True) (fun _ _ _ => trivial) (sg_Pc hP) (hK.sub (tys' := mo_ty k) [0, 1] rfl) (sg_Dc hD)⟩ rfl rfl hl.1 rfl (lv_room (Nat.le_of_ble_eq_true rfl)) dlaw_888 ⟨Nat.le_of_ble_eq_true rfl, Nat.le_of_ble_eq_true rfl⟩) hP hD hS (fun _ h => h) (fun r2 u2 H locs hm hP hD hS => ?_)
  have hP : va_P (dC, dI) vwCl (lw k b (fun j => j) u.2 (de_D0 X) b2 u2 D2 ob o od u.1) H := by rw [lw_M]; exact hP
  have hD : va_D (fun q : Nat => s.heap.size ≤ q) (lw k b (fun j => j) u.2 (de_D0 X) b2 u2 D2 ob o od u.1) := by rw [lw_M]; exact hD
  refine lv_dstore (lv' := [(7, .double r2), (6, .int r), (5, .int (nI 0)), (4, .ref od), (3, .ref ob), (2, .ref (b2 0)), (1, .ref (b 0)), (0, .ref sb)]) hx hb dlaw_891 hl (by decide) rfl (fun ls hl => ?_)
  refine lv_aload_n hx hb dlaw_893 rfl (lv_at hl 5 rfl) ?_
  have hP : va_P (dC, dI) vwCl (([(ob, .inl (k 4, 1, .inr (.inl o)))] ++ (wd k b (fun j => j) u.2 (de_D0 X) ++ [(od, .inl (k 1, 1, wd_d u.1))])) ++ (wm k b2 u2 D2 ++ [])) H := by rw [← lw_M]; exact hP
  have hD : va_D (fun q : Nat => s.heap.size ≤ q) (([(ob, .inl (k 4, 1, .inr (.inl o)))] ++ (wd k b (fun j => j) u.2 (de_D0 X) ++ [(od, .inl (k 1, 1, wd_d u.1))])) ++ (wm k b2 u2 D2 ++ [])) := by rw [← lw_M]; exact hD
  refine sg_i (va_runV (As := []) (rest := []) ⟨hx, hb, hml, hown, hts⟩ (kMo_thrown l dC dI k b2 u2 D2 _ ) (cwV 0 hts (gw_V tw_729 tw_730 tw_731 tw_9 tw_732) rfl rfl rfl (by decide +kernel) ⟨Nat.le_of_ble_eq_true rfl, Nat.le_of_ble_eq_true rfl⟩) ⟨ct_blind (ev := fun _ => True) (fun _ _ _ _ h => h), va_recv hK (sg_Pc hP) (ci := 8) (q0 := 0) rfl rfl, ct_now (A := (fun q : Nat => s.heap.size ≤ q)) (ev := fun _ => True) (fun _ _ _ => trivial) (sg_Pc hP) (hK.sub (tys' := mo_ty k) [0, 1] rfl) (sg_Dc hD)⟩ rfl rfl hl.1 rfl (lv_room (Nat.le_of_ble_eq_true rfl)) dlaw_894 ⟨Nat.le_of_ble_eq_true rfl, Nat.le_of_ble_eq_true rfl⟩) hP hD hS (fun _ h => h) (fun r3 u3 H locs ht hP hD hS => ?_)
  have hP : va_P (dC, dI) vwCl (lw k b (fun j => j) u.2 (de_D0 X) b2 u2 D2 ob o od u.1) H := by rw [lw_M]; exact hP
  have hD : va_D (fun q : Nat => s.heap.size ≤ q) (lw k b (fun j => j) u.2 (de_D0 X) b2 u2 D2 ob o od u.1) := by rw [lw_M]; exact hD
  subst ht
  have hag := ag_warp (I := de_I0) (D := de_D0 X) (I2 := mo_I0) (D2 := D2) (r2 := r2) (xs 1) (xs 2) rfl  hc hm
  refine rw_i (y := r) hag.1 ?_
  refine lv_iload hx hb dlaw_897 (lv_at hl 1 rfl) ?_
  refine lv_icmp_eq (tgt := 904) hx hb dlaw_899 (by decide) (fun c899 => ?_) (fun c899 => ?_)
  · refine lv_iload hx hb dlaw_904 (lv_at hl 1 rfl) ?_
    refine lv_if_ne (tgt := 941) hx hb dlaw_906 (by decide) (fun c906 => ?_) (fun c906 => ?_)
    · refine lv_goto (tgt := 1189) hx hb dlaw_941 (by decide) ?_
      exact K _ _ _ hS (lv_sub hl [2, 7] rfl)
    · have hz := hag.2 (show r = nI 0 from c906)
      refine lv_aload hx hb dlaw_909 (lv_at hl 3 rfl) ?_
      refine lv_iconst (v := nI 0) hx hb dlaw_911 (by decide +kernel) ?_
      refine rw_ald_d (k := 0) hx hb hK hP 49 1 rfl rfl (by decide) (by decide) dlaw_912 ?_
      refine rw_d (y := r2) hz ?_
      refine lv_dload hx hb dlaw_913 (lv_at hl 0 rfl) ?_
      refine lv_dcmp hx hb dlaw_915 ?_
      refine lv_if_eq (tgt := 941) hx hb dlaw_916 (by decide) (fun c916 => ?_) (fun c916 => ?_)
      · refine lv_goto (tgt := 1189) hx hb dlaw_941 (by decide) ?_
        exact K _ _ _ hS (lv_sub hl [2, 7] rfl)
      · refine lv_aload hx hb dlaw_919 (lv_at hl 3 rfl) ?_
        refine lv_iconst (v := nI 0) hx hb dlaw_921 (by decide +kernel) ?_
        refine rw_ald_d (k := 0) hx hb hK hP 49 1 rfl rfl (by decide) (by decide) dlaw_922 ?_
        refine rw_d (y := r2) hz ?_
        refine lv_aload hx hb dlaw_923 (lv_at hl 3 rfl) ?_
        refine lv_iconst (v := nI 0) hx hb dlaw_925 (by decide +kernel) ?_
        refine rw_ald_d (k := 0) hx hb hK hP 49 1 rfl rfl (by decide) (by decide) dlaw_926 ?_
        refine rw_d (y := r2) hz ?_
        refine lv_dcmp hx hb dlaw_927 ?_
        refine lv_if_eq (tgt := 939) hx hb dlaw_928 (by decide) (fun c928 => ?_) (fun c928 => ?_)
        · exact absurd c928 c916
        · refine lv_dload hx hb dlaw_931 (lv_at hl 0 rfl) ?_
          refine lv_dload hx hb dlaw_933 (lv_at hl 0 rfl) ?_
          refine lv_dcmp hx hb dlaw_935 ?_
          refine lv_if_ne (tgt := 941) hx hb dlaw_936 (by decide) (fun c936 => ?_) (fun c936 => ?_)
          · refine lv_goto (tgt := 1189) hx hb dlaw_941 (by decide) ?_
            exact K _ _ _ hS (lv_sub hl [2, 7] rfl)
          · exact absurd c936 c916
  · exact absurd rfl c899
set_option maxHeartbeats 4000000 in
set_option maxRecDepth 100000 in
theorem ar_hear {p : Program} {e : Env} {s : State} {m : MethodId} {below : List Frame} {meth : Method} {c : Code} {Q : State → Prop} (l : Launch) {sb L : Nat} {xs : Nat → Int32} (hL4 : 4 ≤ L) (hLb : L ≤ 2048) {dC : Nat → ClassId} {dI : Nat → Nat → Nat} {k : Nat → ClassId} (CX : la_cx p l s m c sb L xs dC dI k) {b b2 : Nat → Nat} {X D2 : Nat → Nat → UInt64} {ob od : Nat} {o : Nat → Int64} {q : Nat → UInt64} (FX : la_fx X D2) {H : Heap} {locs : List Loc} {ls : Array Slot} (hP : va_P (dC, dI) vwCl (lw k b (fun j => j) de_I0 (de_D0 X) b2 mo_I0 D2 ob o od q) H) (hD : va_D (fun q : Nat => s.heap.size ≤ q) (lw k b (fun j => j) de_I0 (de_D0 X) b2 mo_I0 D2 ob o od q)) (hS : va_S (fun q : Nat => s.heap.size ≤ q) s.heap H locs) (hl : lv_has ls 9 [(5, .int (nI 0)), (4, .ref od), (3, .ref ob), (2, .ref (b2 0)), (1, .ref (b 0)), (0, .ref sb)]) (K : ∀ (H : Heap) (locs : List Loc) (ls : Array Slot), va_S (fun q : Nat => s.heap.size ≤ q) s.heap H locs → lv_has ls 9 [(5, .int (nI 0)), (0, .ref sb)] → W p l e room_1 s m #[Value.ref sb] below meth c H locs 67 2920 Q (F0 m 1189 ls [])) : W p l e room_1 s m #[Value.ref sb] below meth c H locs 66 2914 Q (F0 m 944 ls []) := by
  obtain ⟨hx, hb, hml, hown, hts, hX, hbl, hK, hE, hln⟩ := CX
  refine lv_aload_n hx hb dlaw_944 rfl (lv_at hl 4 rfl) ?_
  refine lv_aload_n hx hb dlaw_945 rfl (lv_at hl 2 rfl) ?_
  have hP : va_P (dC, dI) vwCl ([] ++ (((ob, .inl (k 4, 1, .inr (.inl o))) :: wd k b (fun j => j) de_I0 (de_D0 X)) ++ ([(od, .inl (k 1, 1, wd_d q))] ++ wm k b2 mo_I0 D2))) H := by rw [← lw_L]; exact hP
  have hD : va_D (fun q : Nat => s.heap.size ≤ q) ([] ++ (((ob, .inl (k 4, 1, .inr (.inl o))) :: wd k b (fun j => j) de_I0 (de_D0 X)) ++ ([(od, .inl (k 1, 1, wd_d q))] ++ wm k b2 mo_I0 D2))) := by rw [← lw_L]; exact hD
  refine sg_i (sw_runS (ws' := []) (n := 2) (As := [.ref (b 0), .ref ob]) (rest := []) ⟨hx, hb, hml, hown, hts⟩ (kLa_hear0 l hln dC dI k b (fun j => j) de_I0 (de_D0 X) _ ob o 0 (by decide) rfl) rfl rfl (Nat.le_of_ble_eq_true rfl) (Nat.le_of_ble_eq_true rfl) tw_563 tw_562 tw_0 tw_561 (by decide +kernel) ⟨ct_blind (ev := ev_L) ev_L.blind, ct_now (A := (fun q : Nat => s.heap.size ≤ q)) (ev := ev_L) (fun U hU hW9 => hE.to hW9 (st_law hS hU)) (sg_Pc hP) hK (sg_Dc hD)⟩ rfl rfl hl.1 rfl (lv_room (Nat.le_of_ble_eq_true rfl)) dlaw_946 ⟨Nat.le_of_ble_eq_true rfl, Nat.le_of_ble_eq_true rfl⟩) hP hD hS (fun _ h => h) (fun r u H locs hc hP hD hS => ?_)
  have hP : va_P (dC, dI) vwCl (lw k b (fun j => j) u.2 (de_D0 X) b2 mo_I0 D2 ob u.1 od q) H := by rw [lw_L]; exact hP
  have hD : va_D (fun q : Nat => s.heap.size ≤ q) (lw k b (fun j => j) u.2 (de_D0 X) b2 mo_I0 D2 ob u.1 od q) := by rw [lw_L]; exact hD
  refine lv_istore (lv' := [(6, .int r), (5, .int (nI 0)), (4, .ref od), (3, .ref ob), (2, .ref (b2 0)), (1, .ref (b 0)), (0, .ref sb)]) hx hb dlaw_949 hl (by decide) rfl (fun ls hl => ?_)
  refine lv_aload_n hx hb dlaw_951 rfl (lv_at hl 4 rfl) ?_
  have hP : va_P (dC, dI) vwCl (([(ob, .inl (k 4, 1, .inr (.inl u.1)))] ++ (wd k b (fun j => j) u.2 (de_D0 X) ++ [(od, .inl (k 1, 1, wd_d q))])) ++ (wm k b2 mo_I0 D2 ++ [])) H := by rw [← lw_M]; exact hP
  have hD : va_D (fun q : Nat => s.heap.size ≤ q) (([(ob, .inl (k 4, 1, .inr (.inl u.1)))] ++ (wd k b (fun j => j) u.2 (de_D0 X) ++ [(od, .inl (k 1, 1, wd_d q))])) ++ (wm k b2 mo_I0 D2 ++ [])) := by rw [← lw_M]; exact hD
  refine sg_i (va_runV (As := []) (rest := []) ⟨hx, hb, hml, hown, hts⟩ (kMo_hear0 l dC dI k b2 mo_I0 D2 _ 0 (by decide) rfl) (cwV 0 hts (gw_V tw_850 tw_851 tw_852 tw_9 tw_853) rfl rfl rfl (by decide +kernel) ⟨Nat.le_of_ble_eq_true rfl, Nat.le_of_ble_eq_true rfl⟩) ⟨ct_blind (ev := fun _ => True) (fun _ _ _ _ h => h), va_recv hK (sg_Pc hP) (ci := 8) (q0 := 0) rfl rfl, ct_now (A := (fun q : Nat => s.heap.size ≤ q)) (ev := fun _ => True) (fun _ _ _ => trivial) (sg_Pc hP) (hK.sub (tys' := mo_ty k) [0, 1] rfl) (sg_Dc hD)⟩ rfl rfl hl.1 rfl (lv_room (Nat.le_of_ble_eq_true rfl)) dlaw_952 ⟨Nat.le_of_ble_eq_true rfl, Nat.le_of_ble_eq_true rfl⟩) hP hD hS (fun _ h => h) (fun r2 u2 H locs hm hP hD hS => ?_)
  have hP : va_P (dC, dI) vwCl (lw k b (fun j => j) u.2 (de_D0 X) b2 u2 D2 ob u.1 od q) H := by rw [lw_M]; exact hP
  have hD : va_D (fun q : Nat => s.heap.size ≤ q) (lw k b (fun j => j) u.2 (de_D0 X) b2 u2 D2 ob u.1 od q) := by rw [lw_M]; exact hD
  refine lv_istore (lv' := [(7, .int r2), (6, .int r), (5, .int (nI 0)), (4, .ref od), (3, .ref ob), (2, .ref (b2 0)), (1, .ref (b 0)), (0, .ref sb)]) hx hb dlaw_955 hl (by decide) rfl (fun ls hl => ?_)
  refine lv_aload_n hx hb dlaw_957 rfl (lv_at hl 5 rfl) ?_
  have hP : va_P (dC, dI) vwCl (([(ob, .inl (k 4, 1, .inr (.inl u.1)))] ++ (wd k b (fun j => j) u.2 (de_D0 X) ++ [(od, .inl (k 1, 1, wd_d q))])) ++ (wm k b2 u2 D2 ++ [])) H := by rw [← lw_M]; exact hP
  have hD : va_D (fun q : Nat => s.heap.size ≤ q) (([(ob, .inl (k 4, 1, .inr (.inl u.1)))] ++ (wd k b (fun j => j) u.2 (de_D0 X) ++ [(od, .inl (k 1, 1, wd_d q))])) ++ (wm k b2 u2 D2 ++ [])) := by rw [← lw_M]; exact hD
  refine sg_i (va_runV (As := []) (rest := []) ⟨hx, hb, hml, hown, hts⟩ (kMo_thrown l dC dI k b2 u2 D2 _ ) (cwV 0 hts (gw_V tw_729 tw_730 tw_731 tw_9 tw_732) rfl rfl rfl (by decide +kernel) ⟨Nat.le_of_ble_eq_true rfl, Nat.le_of_ble_eq_true rfl⟩) ⟨ct_blind (ev := fun _ => True) (fun _ _ _ _ h => h), va_recv hK (sg_Pc hP) (ci := 8) (q0 := 0) rfl rfl, ct_now (A := (fun q : Nat => s.heap.size ≤ q)) (ev := fun _ => True) (fun _ _ _ => trivial) (sg_Pc hP) (hK.sub (tys' := mo_ty k) [0, 1] rfl) (sg_Dc hD)⟩ rfl rfl hl.1 rfl (lv_room (Nat.le_of_ble_eq_true rfl)) dlaw_958 ⟨Nat.le_of_ble_eq_true rfl, Nat.le_of_ble_eq_true rfl⟩) hP hD hS (fun _ h => h) (fun r3 u3 H locs ht hP hD hS => ?_)
  have hP : va_P (dC, dI) vwCl (lw k b (fun j => j) u.2 (de_D0 X) b2 u2 D2 ob u.1 od q) H := by rw [lw_M]; exact hP
  have hD : va_D (fun q : Nat => s.heap.size ≤ q) (lw k b (fun j => j) u.2 (de_D0 X) b2 u2 D2 ob u.1 od q) := by rw [lw_M]; exact hD
  subst ht
  have hag := ag_hear (I := de_I0) (D := de_D0 X) (I2 := mo_I0) (D2 := D2) (r2 := r2) 0 (by decide) rfl  hc hm
  refine rw_i (y := r) hag.1 ?_
  refine lv_iload hx hb dlaw_961 (lv_at hl 1 rfl) ?_
  refine lv_icmp_eq (tgt := 968) hx hb dlaw_963 (by decide) (fun c963 => ?_) (fun c963 => ?_)
  · refine lv_iload hx hb dlaw_968 (lv_at hl 1 rfl) ?_
    refine lv_if_ne (tgt := 985) hx hb dlaw_970 (by decide) (fun c970 => ?_) (fun c970 => ?_)
    · refine lv_goto (tgt := 1189) hx hb dlaw_985 (by decide) ?_
      exact K _ _ _ hS (lv_sub hl [2, 7] rfl)
    · have hz := hag.2 (show r = nI 0 from c970)
      refine lv_aload_n hx hb dlaw_973 rfl (lv_at hl 4 rfl) ?_
      refine lv_iconst (v := nI 0) hx hb dlaw_974 (by decide +kernel) ?_
      refine rw_ald_l (k := 0) hx hb hK hP 0 4 rfl rfl (by decide) (by decide) dlaw_975 ?_
      refine rw_l (y := r2.toInt64) hz ?_
      refine lv_iload hx hb dlaw_976 (lv_at hl 0 rfl) ?_
      refine lv_i2l (v := r2.toInt64) hx hb dlaw_978 rfl ?_
      refine W.lcmp hx hb dlaw_979 ?_
      refine lv_if_eq (tgt := 985) hx hb dlaw_980 (by decide) (fun c980 => ?_) (fun c980 => ?_)
      · refine lv_goto (tgt := 1189) hx hb dlaw_985 (by decide) ?_
        exact K _ _ _ hS (lv_sub hl [2, 7] rfl)
      · exact absurd ((lg_cmp_eq _ _).mpr rfl) c980
  · exact absurd rfl c963
set_option maxHeartbeats 4000000 in
set_option maxRecDepth 100000 in
theorem ar_word {p : Program} {e : Env} {s : State} {m : MethodId} {below : List Frame} {meth : Method} {c : Code} {Q : State → Prop} (l : Launch) {sb L : Nat} {xs : Nat → Int32} (hL4 : 4 ≤ L) (hLb : L ≤ 2048) {dC : Nat → ClassId} {dI : Nat → Nat → Nat} {k : Nat → ClassId} (CX : la_cx p l s m c sb L xs dC dI k) {b b2 : Nat → Nat} {X D2 : Nat → Nat → UInt64} {ob od : Nat} {o : Nat → Int64} {q : Nat → UInt64} (FX : la_fx X D2) {H : Heap} {locs : List Loc} {ls : Array Slot} (hP : va_P (dC, dI) vwCl (lw k b (fun j => j) de_I0 (de_D0 X) b2 mo_I0 D2 ob o od q) H) (hD : va_D (fun q : Nat => s.heap.size ≤ q) (lw k b (fun j => j) de_I0 (de_D0 X) b2 mo_I0 D2 ob o od q)) (hS : va_S (fun q : Nat => s.heap.size ≤ q) s.heap H locs) (hl : lv_has ls 9 [(5, .int (nI 0)), (4, .ref od), (3, .ref ob), (2, .ref (b2 0)), (1, .ref (b 0)), (0, .ref sb)]) (K : ∀ (H : Heap) (locs : List Loc) (ls : Array Slot), va_S (fun q : Nat => s.heap.size ≤ q) s.heap H locs → lv_has ls 9 [(5, .int (nI 0)), (0, .ref sb)] → W p l e room_1 s m #[Value.ref sb] below meth c H locs 67 2920 Q (F0 m 1189 ls [])) : W p l e room_1 s m #[Value.ref sb] below meth c H locs 66 2914 Q (F0 m 988 ls []) := by
  obtain ⟨hx, hb, hml, hown, hts, hX, hbl, hK, hE, hln⟩ := CX
  refine lv_aload_n hx hb dlaw_988 rfl (lv_at hl 4 rfl) ?_
  refine lv_aload_n hx hb dlaw_989 rfl (lv_at hl 5 rfl) ?_
  refine lv_iload hx hb dlaw_990 (lv_at hl 0 rfl) ?_
  refine lv_iconst (v := nI 1) hx hb dlaw_992 (by decide +kernel) ?_
  refine lv_iadd hx hb dlaw_993 ?_
  refine rw_i (y := nI 1) rfl ?_
  refine rw_sld (k := 1) hx hb hX hbl (Nat.not_le.mpr hbl) hS (by omega) (by omega) dlaw_994 ?_
  refine lv_aload_n hx hb dlaw_995 rfl (lv_at hl 5 rfl) ?_
  refine lv_iload hx hb dlaw_996 (lv_at hl 0 rfl) ?_
  refine lv_iconst (v := nI 2) hx hb dlaw_998 (by decide +kernel) ?_
  refine lv_iadd hx hb dlaw_999 ?_
  refine rw_i (y := nI 2) rfl ?_
  refine rw_sld (k := 2) hx hb hX hbl (Nat.not_le.mpr hbl) hS (by omega) (by omega) dlaw_1000 ?_
  refine lv_aload_n hx hb dlaw_1001 rfl (lv_at hl 2 rfl) ?_
  have hP : va_P (dC, dI) vwCl ([] ++ (((ob, .inl (k 4, 1, .inr (.inl o))) :: wd k b (fun j => j) de_I0 (de_D0 X)) ++ ([(od, .inl (k 1, 1, wd_d q))] ++ wm k b2 mo_I0 D2))) H := by rw [← lw_L]; exact hP
  have hD : va_D (fun q : Nat => s.heap.size ≤ q) ([] ++ (((ob, .inl (k 4, 1, .inr (.inl o))) :: wd k b (fun j => j) de_I0 (de_D0 X)) ++ ([(od, .inl (k 1, 1, wd_d q))] ++ wm k b2 mo_I0 D2))) := by rw [← lw_L]; exact hD
  refine sg_i (sw_runS (ws' := []) (n := 4) (As := [.ref (b 0), .int (xs 1), .int (xs 2), .ref ob]) (rest := []) ⟨hx, hb, hml, hown, hts⟩ (kLa_word0 l hln dC dI k b (fun j => j) de_I0 (de_D0 X) _ ob o (xs 1) (xs 2) rfl) rfl rfl (Nat.le_of_ble_eq_true rfl) (Nat.le_of_ble_eq_true rfl) tw_606 tw_605 tw_0 tw_604 (by decide +kernel) ⟨ct_blind (ev := ev_L) ev_L.blind, ct_now (A := (fun q : Nat => s.heap.size ≤ q)) (ev := ev_L) (fun U hU hW9 => hE.to hW9 (st_law hS hU)) (sg_Pc hP) hK (sg_Dc hD)⟩ rfl rfl hl.1 rfl (lv_room (Nat.le_of_ble_eq_true rfl)) dlaw_1002 ⟨Nat.le_of_ble_eq_true rfl, Nat.le_of_ble_eq_true rfl⟩) hP hD hS (fun _ h => h) (fun r u H locs hc hP hD hS => ?_)
  have hP : va_P (dC, dI) vwCl (lw k b (fun j => j) u.2 (de_D0 X) b2 mo_I0 D2 ob u.1 od q) H := by rw [lw_L]; exact hP
  have hD : va_D (fun q : Nat => s.heap.size ≤ q) (lw k b (fun j => j) u.2 (de_D0 X) b2 mo_I0 D2 ob u.1 od q) := by rw [lw_L]; exact hD
  refine lv_istore (lv' := [(6, .int r), (5, .int (nI 0)), (4, .ref od), (3, .ref ob), (2, .ref (b2 0)), (1, .ref (b 0)), (0, .ref sb)]) hx hb dlaw_1005 hl (by decide) rfl (fun ls hl => ?_)
  refine lv_aload_n hx hb dlaw_1007 rfl (lv_at hl 4 rfl) ?_
  refine lv_aload_n hx hb dlaw_1008 rfl (lv_at hl 6 rfl) ?_
  refine lv_iload hx hb dlaw_1009 (lv_at hl 1 rfl) ?_
  refine lv_iconst (v := nI 1) hx hb dlaw_1011 (by decide +kernel) ?_
  refine lv_iadd hx hb dlaw_1012 ?_
  refine rw_i (y := nI 1) rfl ?_
  refine rw_sld (k := 1) hx hb hX hbl (Nat.not_le.mpr hbl) hS (by omega) (by omega) dlaw_1013 ?_
  refine lv_aload_n hx hb dlaw_1014 rfl (lv_at hl 6 rfl) ?_
  refine lv_iload hx hb dlaw_1015 (lv_at hl 1 rfl) ?_
  refine lv_iconst (v := nI 2) hx hb dlaw_1017 (by decide +kernel) ?_
  refine lv_iadd hx hb dlaw_1018 ?_
  refine rw_i (y := nI 2) rfl ?_
  refine rw_sld (k := 2) hx hb hX hbl (Nat.not_le.mpr hbl) hS (by omega) (by omega) dlaw_1019 ?_
  have hP : va_P (dC, dI) vwCl (([(ob, .inl (k 4, 1, .inr (.inl u.1)))] ++ (wd k b (fun j => j) u.2 (de_D0 X) ++ [(od, .inl (k 1, 1, wd_d q))])) ++ (wm k b2 mo_I0 D2 ++ [])) H := by rw [← lw_M]; exact hP
  have hD : va_D (fun q : Nat => s.heap.size ≤ q) (([(ob, .inl (k 4, 1, .inr (.inl u.1)))] ++ (wd k b (fun j => j) u.2 (de_D0 X) ++ [(od, .inl (k 1, 1, wd_d q))])) ++ (wm k b2 mo_I0 D2 ++ [])) := by rw [← lw_M]; exact hD
  refine sg_i (va_runV (As := [.int (xs 1), .int (xs 2)]) (rest := []) ⟨hx, hb, hml, hown, hts⟩ (kMo_word l dC dI k b2 mo_I0 D2 _ (xs 1) (xs 2) 0 (by decide) rfl (by decide)) (cwV 2 hts (gw_V tw_862 tw_863 tw_864 tw_9 tw_865) rfl rfl rfl (by decide +kernel) ⟨Nat.le_of_ble_eq_true rfl, Nat.le_of_ble_eq_true rfl⟩) ⟨ct_blind (ev := fun _ => True) (fun _ _ _ _ h => h), va_recv hK (sg_Pc hP) (ci := 8) (q0 := 0) rfl rfl, ct_now (A := (fun q : Nat => s.heap.size ≤ q)) (ev := fun _ => True) (fun _ _ _ => trivial) (sg_Pc hP) (hK.sub (tys' := mo_ty k) [0, 1] rfl) (sg_Dc hD)⟩ rfl rfl hl.1 rfl (lv_room (Nat.le_of_ble_eq_true rfl)) dlaw_1020 ⟨Nat.le_of_ble_eq_true rfl, Nat.le_of_ble_eq_true rfl⟩) hP hD hS (fun _ h => h) (fun r2 u2 H locs hm hP hD hS => ?_)
  have hP : va_P (dC, dI) vwCl (lw k b (fun j => j) u.2 (de_D0 X) b2 u2 D2 ob u.1 od q) H := by rw [lw_M]; exact hP
  have hD : va_D (fun q : Nat => s.heap.size ≤ q) (lw k b (fun j => j) u.2 (de_D0 X) b2 u2 D2 ob u.1 od q) := by rw [lw_M]; exact hD
  refine lv_istore (lv' := [(7, .int r2), (6, .int r), (5, .int (nI 0)), (4, .ref od), (3, .ref ob), (2, .ref (b2 0)), (1, .ref (b 0)), (0, .ref sb)]) hx hb dlaw_1023 hl (by decide) rfl (fun ls hl => ?_)
  refine lv_aload_n hx hb dlaw_1025 rfl (lv_at hl 5 rfl) ?_
  have hP : va_P (dC, dI) vwCl (([(ob, .inl (k 4, 1, .inr (.inl u.1)))] ++ (wd k b (fun j => j) u.2 (de_D0 X) ++ [(od, .inl (k 1, 1, wd_d q))])) ++ (wm k b2 u2 D2 ++ [])) H := by rw [← lw_M]; exact hP
  have hD : va_D (fun q : Nat => s.heap.size ≤ q) (([(ob, .inl (k 4, 1, .inr (.inl u.1)))] ++ (wd k b (fun j => j) u.2 (de_D0 X) ++ [(od, .inl (k 1, 1, wd_d q))])) ++ (wm k b2 u2 D2 ++ [])) := by rw [← lw_M]; exact hD
  refine sg_i (va_runV (As := []) (rest := []) ⟨hx, hb, hml, hown, hts⟩ (kMo_thrown l dC dI k b2 u2 D2 _ ) (cwV 0 hts (gw_V tw_729 tw_730 tw_731 tw_9 tw_732) rfl rfl rfl (by decide +kernel) ⟨Nat.le_of_ble_eq_true rfl, Nat.le_of_ble_eq_true rfl⟩) ⟨ct_blind (ev := fun _ => True) (fun _ _ _ _ h => h), va_recv hK (sg_Pc hP) (ci := 8) (q0 := 0) rfl rfl, ct_now (A := (fun q : Nat => s.heap.size ≤ q)) (ev := fun _ => True) (fun _ _ _ => trivial) (sg_Pc hP) (hK.sub (tys' := mo_ty k) [0, 1] rfl) (sg_Dc hD)⟩ rfl rfl hl.1 rfl (lv_room (Nat.le_of_ble_eq_true rfl)) dlaw_1026 ⟨Nat.le_of_ble_eq_true rfl, Nat.le_of_ble_eq_true rfl⟩) hP hD hS (fun _ h => h) (fun r3 u3 H locs ht hP hD hS => ?_)
  have hP : va_P (dC, dI) vwCl (lw k b (fun j => j) u.2 (de_D0 X) b2 u2 D2 ob u.1 od q) H := by rw [lw_M]; exact hP
  have hD : va_D (fun q : Nat => s.heap.size ≤ q) (lw k b (fun j => j) u.2 (de_D0 X) b2 u2 D2 ob u.1 od q) := by rw [lw_M]; exact hD
  subst ht
  have hag := ag_word (I := de_I0) (D := de_D0 X) (I2 := mo_I0) (D2 := D2) (r2 := r2) (xs 1) (xs 2) rfl  hc hm
  refine rw_i (y := r) hag.1 ?_
  refine lv_iload hx hb dlaw_1029 (lv_at hl 1 rfl) ?_
  refine lv_icmp_eq (tgt := 1036) hx hb dlaw_1031 (by decide) (fun c1031 => ?_) (fun c1031 => ?_)
  · refine lv_iload hx hb dlaw_1036 (lv_at hl 1 rfl) ?_
    refine lv_if_ne (tgt := 1053) hx hb dlaw_1038 (by decide) (fun c1038 => ?_) (fun c1038 => ?_)
    · refine lv_goto (tgt := 1189) hx hb dlaw_1053 (by decide) ?_
      exact K _ _ _ hS (lv_sub hl [2, 7] rfl)
    · have hz := hag.2 (show r = nI 0 from c1038)
      refine lv_aload_n hx hb dlaw_1041 rfl (lv_at hl 4 rfl) ?_
      refine lv_iconst (v := nI 0) hx hb dlaw_1042 (by decide +kernel) ?_
      refine rw_ald_l (k := 0) hx hb hK hP 0 4 rfl rfl (by decide) (by decide) dlaw_1043 ?_
      refine rw_l (y := r2.toInt64) hz ?_
      refine lv_iload hx hb dlaw_1044 (lv_at hl 0 rfl) ?_
      refine lv_i2l (v := r2.toInt64) hx hb dlaw_1046 rfl ?_
      refine W.lcmp hx hb dlaw_1047 ?_
      refine lv_if_eq (tgt := 1053) hx hb dlaw_1048 (by decide) (fun c1048 => ?_) (fun c1048 => ?_)
      · refine lv_goto (tgt := 1189) hx hb dlaw_1053 (by decide) ?_
        exact K _ _ _ hS (lv_sub hl [2, 7] rfl)
      · exact absurd ((lg_cmp_eq _ _).mpr rfl) c1048
  · exact absurd rfl c1031
set_option maxHeartbeats 4000000 in
set_option maxRecDepth 100000 in
theorem ar_cost {p : Program} {e : Env} {s : State} {m : MethodId} {below : List Frame} {meth : Method} {c : Code} {Q : State → Prop} (l : Launch) {sb L : Nat} {xs : Nat → Int32} (hL4 : 4 ≤ L) (hLb : L ≤ 2048) {dC : Nat → ClassId} {dI : Nat → Nat → Nat} {k : Nat → ClassId} (CX : la_cx p l s m c sb L xs dC dI k) {b b2 : Nat → Nat} {X D2 : Nat → Nat → UInt64} {ob od : Nat} {o : Nat → Int64} {q : Nat → UInt64} (FX : la_fx X D2) {H : Heap} {locs : List Loc} {ls : Array Slot} (hP : va_P (dC, dI) vwCl (lw k b (fun j => j) de_I0 (de_D0 X) b2 mo_I0 D2 ob o od q) H) (hD : va_D (fun q : Nat => s.heap.size ≤ q) (lw k b (fun j => j) de_I0 (de_D0 X) b2 mo_I0 D2 ob o od q)) (hS : va_S (fun q : Nat => s.heap.size ≤ q) s.heap H locs) (hl : lv_has ls 9 [(5, .int (nI 0)), (4, .ref od), (3, .ref ob), (2, .ref (b2 0)), (1, .ref (b 0)), (0, .ref sb)]) (K : ∀ (H : Heap) (locs : List Loc) (ls : Array Slot), va_S (fun q : Nat => s.heap.size ≤ q) s.heap H locs → lv_has ls 9 [(5, .int (nI 0)), (0, .ref sb)] → W p l e room_1 s m #[Value.ref sb] below meth c H locs 67 2920 Q (F0 m 1189 ls [])) : W p l e room_1 s m #[Value.ref sb] below meth c H locs 66 2914 Q (F0 m 1056 ls []) := by
  obtain ⟨hx, hb, hml, hown, hts, hX, hbl, hK, hE, hln⟩ := CX
  refine lv_aload_n hx hb dlaw_1056 rfl (lv_at hl 4 rfl) ?_
  refine lv_aload_n hx hb dlaw_1057 rfl (lv_at hl 5 rfl) ?_
  refine lv_iload hx hb dlaw_1058 (lv_at hl 0 rfl) ?_
  refine lv_iconst (v := nI 1) hx hb dlaw_1060 (by decide +kernel) ?_
  refine lv_iadd hx hb dlaw_1061 ?_
  refine rw_i (y := nI 1) rfl ?_
  refine rw_sld (k := 1) hx hb hX hbl (Nat.not_le.mpr hbl) hS (by omega) (by omega) dlaw_1062 ?_
  refine lv_aload hx hb dlaw_1063 (lv_at hl 1 rfl) ?_
  have hP : va_P (dC, dI) vwCl ([(ob, .inl (k 4, 1, .inr (.inl o)))] ++ ((wd k b (fun j => j) de_I0 (de_D0 X) ++ [(od, .inl (k 1, 1, wd_d q))]) ++ wm k b2 mo_I0 D2)) H := by rw [← lw_D]; exact hP
  have hD : va_D (fun q : Nat => s.heap.size ≤ q) ([(ob, .inl (k 4, 1, .inr (.inl o)))] ++ ((wd k b (fun j => j) de_I0 (de_D0 X) ++ [(od, .inl (k 1, 1, wd_d q))]) ++ wm k b2 mo_I0 D2)) := by rw [← lw_D]; exact hD
  refine sg_i (sw_runS (ws' := []) (n := 3) (As := [.ref (b 0), .int (xs 1), .ref od]) (rest := []) ⟨hx, hb, hml, hown, hts⟩ (kLa_cost0 l hln dC dI k b (fun j => j) de_I0 (de_D0 X) _ od q (xs 1) rfl) rfl rfl (Nat.le_of_ble_eq_true rfl) (Nat.le_of_ble_eq_true rfl) tw_619 tw_618 tw_0 tw_617 (by decide +kernel) ⟨ct_blind (ev := ev_L) ev_L.blind, ct_now (A := (fun q : Nat => s.heap.size ≤ q)) (ev := ev_L) (fun U hU hW9 => hE.to hW9 (st_law hS hU)) (sg_Pc hP) hK (sg_Dc hD)⟩ rfl rfl hl.1 rfl (lv_room (Nat.le_of_ble_eq_true rfl)) dlaw_1065 ⟨Nat.le_of_ble_eq_true rfl, Nat.le_of_ble_eq_true rfl⟩) hP hD hS (fun _ h => h) (fun r u H locs hc hP hD hS => ?_)
  have hP : va_P (dC, dI) vwCl (lw k b (fun j => j) u.2 (de_D0 X) b2 mo_I0 D2 ob o od u.1) H := by rw [lw_D]; exact hP
  have hD : va_D (fun q : Nat => s.heap.size ≤ q) (lw k b (fun j => j) u.2 (de_D0 X) b2 mo_I0 D2 ob o od u.1) := by rw [lw_D]; exact hD
  refine lv_istore (lv' := [(6, .int r), (5, .int (nI 0)), (4, .ref od), (3, .ref ob), (2, .ref (b2 0)), (1, .ref (b 0)), (0, .ref sb)]) hx hb dlaw_1068 hl (by decide) rfl (fun ls hl => ?_)
  refine lv_aload_n hx hb dlaw_1070 rfl (lv_at hl 4 rfl) ?_
  refine lv_aload_n hx hb dlaw_1071 rfl (lv_at hl 6 rfl) ?_
  refine lv_iload hx hb dlaw_1072 (lv_at hl 1 rfl) ?_
  refine lv_iconst (v := nI 1) hx hb dlaw_1074 (by decide +kernel) ?_
  refine lv_iadd hx hb dlaw_1075 ?_
  refine rw_i (y := nI 1) rfl ?_
  refine rw_sld (k := 1) hx hb hX hbl (Nat.not_le.mpr hbl) hS (by omega) (by omega) dlaw_1076 ?_
  have hP : va_P (dC, dI) vwCl (([(ob, .inl (k 4, 1, .inr (.inl o)))] ++ (wd k b (fun j => j) u.2 (de_D0 X) ++ [(od, .inl (k 1, 1, wd_d u.1))])) ++ (wm k b2 mo_I0 D2 ++ [])) H := by rw [← lw_M]; exact hP
  have hD : va_D (fun q : Nat => s.heap.size ≤ q) (([(ob, .inl (k 4, 1, .inr (.inl o)))] ++ (wd k b (fun j => j) u.2 (de_D0 X) ++ [(od, .inl (k 1, 1, wd_d u.1))])) ++ (wm k b2 mo_I0 D2 ++ [])) := by rw [← lw_M]; exact hD
  refine sg_d (va_runV (As := [.int (xs 1)]) (rest := []) ⟨hx, hb, hml, hown, hts⟩ (kMo_cost l dC dI k b2 mo_I0 D2 _ (xs 1) 0 (by decide) rfl) (cwV 1 hts (gw_V tw_867 tw_868 tw_869 tw_9 tw_870) rfl rfl rfl (by decide +kernel) ⟨Nat.le_of_ble_eq_true rfl, Nat.le_of_ble_eq_true rfl⟩) ⟨ct_blind (ev := fun _ => True) (fun _ _ _ _ h => h), va_recv hK (sg_Pc hP) (ci := 8) (q0 := 0) rfl rfl, ct_now (A := (fun q : Nat => s.heap.size ≤ q)) (ev := fun _ => True) (fun _ _ _ => trivial) (sg_Pc hP) (hK.sub (tys' := mo_ty k) [0, 1] rfl) (sg_Dc hD)⟩ rfl rfl hl.1 rfl (lv_room (Nat.le_of_ble_eq_true rfl)) dlaw_1077 ⟨Nat.le_of_ble_eq_true rfl, Nat.le_of_ble_eq_true rfl⟩) hP hD hS (fun _ h => h) (fun r2 u2 H locs hm hP hD hS => ?_)
  have hP : va_P (dC, dI) vwCl (lw k b (fun j => j) u.2 (de_D0 X) b2 u2 D2 ob o od u.1) H := by rw [lw_M]; exact hP
  have hD : va_D (fun q : Nat => s.heap.size ≤ q) (lw k b (fun j => j) u.2 (de_D0 X) b2 u2 D2 ob o od u.1) := by rw [lw_M]; exact hD
  refine lv_dstore (lv' := [(7, .double r2), (6, .int r), (5, .int (nI 0)), (4, .ref od), (3, .ref ob), (2, .ref (b2 0)), (1, .ref (b 0)), (0, .ref sb)]) hx hb dlaw_1080 hl (by decide) rfl (fun ls hl => ?_)
  refine lv_aload_n hx hb dlaw_1082 rfl (lv_at hl 5 rfl) ?_
  have hP : va_P (dC, dI) vwCl (([(ob, .inl (k 4, 1, .inr (.inl o)))] ++ (wd k b (fun j => j) u.2 (de_D0 X) ++ [(od, .inl (k 1, 1, wd_d u.1))])) ++ (wm k b2 u2 D2 ++ [])) H := by rw [← lw_M]; exact hP
  have hD : va_D (fun q : Nat => s.heap.size ≤ q) (([(ob, .inl (k 4, 1, .inr (.inl o)))] ++ (wd k b (fun j => j) u.2 (de_D0 X) ++ [(od, .inl (k 1, 1, wd_d u.1))])) ++ (wm k b2 u2 D2 ++ [])) := by rw [← lw_M]; exact hD
  refine sg_i (va_runV (As := []) (rest := []) ⟨hx, hb, hml, hown, hts⟩ (kMo_thrown l dC dI k b2 u2 D2 _ ) (cwV 0 hts (gw_V tw_729 tw_730 tw_731 tw_9 tw_732) rfl rfl rfl (by decide +kernel) ⟨Nat.le_of_ble_eq_true rfl, Nat.le_of_ble_eq_true rfl⟩) ⟨ct_blind (ev := fun _ => True) (fun _ _ _ _ h => h), va_recv hK (sg_Pc hP) (ci := 8) (q0 := 0) rfl rfl, ct_now (A := (fun q : Nat => s.heap.size ≤ q)) (ev := fun _ => True) (fun _ _ _ => trivial) (sg_Pc hP) (hK.sub (tys' := mo_ty k) [0, 1] rfl) (sg_Dc hD)⟩ rfl rfl hl.1 rfl (lv_room (Nat.le_of_ble_eq_true rfl)) dlaw_1083 ⟨Nat.le_of_ble_eq_true rfl, Nat.le_of_ble_eq_true rfl⟩) hP hD hS (fun _ h => h) (fun r3 u3 H locs ht hP hD hS => ?_)
  have hP : va_P (dC, dI) vwCl (lw k b (fun j => j) u.2 (de_D0 X) b2 u2 D2 ob o od u.1) H := by rw [lw_M]; exact hP
  have hD : va_D (fun q : Nat => s.heap.size ≤ q) (lw k b (fun j => j) u.2 (de_D0 X) b2 u2 D2 ob o od u.1) := by rw [lw_M]; exact hD
  subst ht
  have hag := ag_cost (I := de_I0) (D := de_D0 X) (I2 := mo_I0) (D2 := D2) (r2 := r2) (xs 1) rfl  hc hm
  refine rw_i (y := r) hag.1 ?_
  refine lv_iload hx hb dlaw_1086 (lv_at hl 1 rfl) ?_
  refine lv_icmp_eq (tgt := 1093) hx hb dlaw_1088 (by decide) (fun c1088 => ?_) (fun c1088 => ?_)
  · refine lv_iload hx hb dlaw_1093 (lv_at hl 1 rfl) ?_
    refine lv_if_ne (tgt := 1130) hx hb dlaw_1095 (by decide) (fun c1095 => ?_) (fun c1095 => ?_)
    · refine lv_goto (tgt := 1189) hx hb dlaw_1130 (by decide) ?_
      exact K _ _ _ hS (lv_sub hl [2, 7] rfl)
    · have hz := hag.2 (show r = nI 0 from c1095)
      refine lv_aload hx hb dlaw_1098 (lv_at hl 3 rfl) ?_
      refine lv_iconst (v := nI 0) hx hb dlaw_1100 (by decide +kernel) ?_
      refine rw_ald_d (k := 0) hx hb hK hP 49 1 rfl rfl (by decide) (by decide) dlaw_1101 ?_
      refine rw_d (y := r2) hz ?_
      refine lv_dload hx hb dlaw_1102 (lv_at hl 0 rfl) ?_
      refine lv_dcmp hx hb dlaw_1104 ?_
      refine lv_if_eq (tgt := 1130) hx hb dlaw_1105 (by decide) (fun c1105 => ?_) (fun c1105 => ?_)
      · refine lv_goto (tgt := 1189) hx hb dlaw_1130 (by decide) ?_
        exact K _ _ _ hS (lv_sub hl [2, 7] rfl)
      · refine lv_aload hx hb dlaw_1108 (lv_at hl 3 rfl) ?_
        refine lv_iconst (v := nI 0) hx hb dlaw_1110 (by decide +kernel) ?_
        refine rw_ald_d (k := 0) hx hb hK hP 49 1 rfl rfl (by decide) (by decide) dlaw_1111 ?_
        refine rw_d (y := r2) hz ?_
        refine lv_aload hx hb dlaw_1112 (lv_at hl 3 rfl) ?_
        refine lv_iconst (v := nI 0) hx hb dlaw_1114 (by decide +kernel) ?_
        refine rw_ald_d (k := 0) hx hb hK hP 49 1 rfl rfl (by decide) (by decide) dlaw_1115 ?_
        refine rw_d (y := r2) hz ?_
        refine lv_dcmp hx hb dlaw_1116 ?_
        refine lv_if_eq (tgt := 1128) hx hb dlaw_1117 (by decide) (fun c1117 => ?_) (fun c1117 => ?_)
        · exact absurd c1117 c1105
        · refine lv_dload hx hb dlaw_1120 (lv_at hl 0 rfl) ?_
          refine lv_dload hx hb dlaw_1122 (lv_at hl 0 rfl) ?_
          refine lv_dcmp hx hb dlaw_1124 ?_
          refine lv_if_ne (tgt := 1130) hx hb dlaw_1125 (by decide) (fun c1125 => ?_) (fun c1125 => ?_)
          · refine lv_goto (tgt := 1189) hx hb dlaw_1130 (by decide) ?_
            exact K _ _ _ hS (lv_sub hl [2, 7] rfl)
          · exact absurd c1125 c1105
  · exact absurd rfl c1088
set_option maxHeartbeats 4000000 in
set_option maxRecDepth 100000 in
theorem ar_count {p : Program} {e : Env} {s : State} {m : MethodId} {below : List Frame} {meth : Method} {c : Code} {Q : State → Prop} (l : Launch) {sb L : Nat} {xs : Nat → Int32} (hL4 : 4 ≤ L) (hLb : L ≤ 2048) {dC : Nat → ClassId} {dI : Nat → Nat → Nat} {k : Nat → ClassId} (CX : la_cx p l s m c sb L xs dC dI k) {b b2 : Nat → Nat} {X D2 : Nat → Nat → UInt64} {ob od : Nat} {o : Nat → Int64} {q : Nat → UInt64} (FX : la_fx X D2) {H : Heap} {locs : List Loc} {ls : Array Slot} (hP : va_P (dC, dI) vwCl (lw k b (fun j => j) de_I0 (de_D0 X) b2 mo_I0 D2 ob o od q) H) (hD : va_D (fun q : Nat => s.heap.size ≤ q) (lw k b (fun j => j) de_I0 (de_D0 X) b2 mo_I0 D2 ob o od q)) (hS : va_S (fun q : Nat => s.heap.size ≤ q) s.heap H locs) (hl : lv_has ls 9 [(5, .int (nI 0)), (4, .ref od), (3, .ref ob), (2, .ref (b2 0)), (1, .ref (b 0)), (0, .ref sb)]) (K : ∀ (H : Heap) (locs : List Loc) (ls : Array Slot), va_S (fun q : Nat => s.heap.size ≤ q) s.heap H locs → lv_has ls 9 [(5, .int (nI 0)), (0, .ref sb)] → W p l e room_1 s m #[Value.ref sb] below meth c H locs 67 2920 Q (F0 m 1189 ls [])) : W p l e room_1 s m #[Value.ref sb] below meth c H locs 66 2914 Q (F0 m 1133 ls []) := by
  obtain ⟨hx, hb, hml, hown, hts, hX, hbl, hK, hE, hln⟩ := CX
  refine lv_aload_n hx hb dlaw_1133 rfl (lv_at hl 4 rfl) ?_
  refine lv_aload_n hx hb dlaw_1134 rfl (lv_at hl 5 rfl) ?_
  refine lv_iload hx hb dlaw_1135 (lv_at hl 0 rfl) ?_
  refine lv_iconst (v := nI 1) hx hb dlaw_1137 (by decide +kernel) ?_
  refine lv_iadd hx hb dlaw_1138 ?_
  refine rw_i (y := nI 1) rfl ?_
  refine rw_sld (k := 1) hx hb hX hbl (Nat.not_le.mpr hbl) hS (by omega) (by omega) dlaw_1139 ?_
  refine lv_aload_n hx hb dlaw_1140 rfl (lv_at hl 2 rfl) ?_
  have hP : va_P (dC, dI) vwCl ([] ++ (((ob, .inl (k 4, 1, .inr (.inl o))) :: wd k b (fun j => j) de_I0 (de_D0 X)) ++ ([(od, .inl (k 1, 1, wd_d q))] ++ wm k b2 mo_I0 D2))) H := by rw [← lw_L]; exact hP
  have hD : va_D (fun q : Nat => s.heap.size ≤ q) ([] ++ (((ob, .inl (k 4, 1, .inr (.inl o))) :: wd k b (fun j => j) de_I0 (de_D0 X)) ++ ([(od, .inl (k 1, 1, wd_d q))] ++ wm k b2 mo_I0 D2))) := by rw [← lw_L]; exact hD
  refine sg_i (sw_runS (ws' := []) (n := 3) (As := [.ref (b 0), .int (xs 1), .ref ob]) (rest := []) ⟨hx, hb, hml, hown, hts⟩ (kLa_count0 l hln dC dI k b (fun j => j) de_I0 (de_D0 X) _ ob o (xs 1) 0 (by decide) rfl 0 (by decide) rfl) rfl rfl (Nat.le_of_ble_eq_true rfl) (Nat.le_of_ble_eq_true rfl) tw_627 tw_626 tw_0 tw_625 (by decide +kernel) ⟨ct_blind (ev := ev_L) ev_L.blind, ct_now (A := (fun q : Nat => s.heap.size ≤ q)) (ev := ev_L) (fun U hU hW9 => hE.to hW9 (st_law hS hU)) (sg_Pc hP) hK (sg_Dc hD)⟩ rfl rfl hl.1 rfl (lv_room (Nat.le_of_ble_eq_true rfl)) dlaw_1141 ⟨Nat.le_of_ble_eq_true rfl, Nat.le_of_ble_eq_true rfl⟩) hP hD hS (fun _ h => h) (fun r u H locs hc hP hD hS => ?_)
  have hP : va_P (dC, dI) vwCl (lw k b (fun j => j) u.2 (de_D0 X) b2 mo_I0 D2 ob u.1 od q) H := by rw [lw_L]; exact hP
  have hD : va_D (fun q : Nat => s.heap.size ≤ q) (lw k b (fun j => j) u.2 (de_D0 X) b2 mo_I0 D2 ob u.1 od q) := by rw [lw_L]; exact hD
  refine lv_istore (lv' := [(6, .int r), (5, .int (nI 0)), (4, .ref od), (3, .ref ob), (2, .ref (b2 0)), (1, .ref (b 0)), (0, .ref sb)]) hx hb dlaw_1144 hl (by decide) rfl (fun ls hl => ?_)
  refine lv_aload_n hx hb dlaw_1146 rfl (lv_at hl 4 rfl) ?_
  refine lv_aload_n hx hb dlaw_1147 rfl (lv_at hl 6 rfl) ?_
  refine lv_iload hx hb dlaw_1148 (lv_at hl 1 rfl) ?_
  refine lv_iconst (v := nI 1) hx hb dlaw_1150 (by decide +kernel) ?_
  refine lv_iadd hx hb dlaw_1151 ?_
  refine rw_i (y := nI 1) rfl ?_
  refine rw_sld (k := 1) hx hb hX hbl (Nat.not_le.mpr hbl) hS (by omega) (by omega) dlaw_1152 ?_
  have hP : va_P (dC, dI) vwCl (([(ob, .inl (k 4, 1, .inr (.inl u.1)))] ++ (wd k b (fun j => j) u.2 (de_D0 X) ++ [(od, .inl (k 1, 1, wd_d q))])) ++ (wm k b2 mo_I0 D2 ++ [])) H := by rw [← lw_M]; exact hP
  have hD : va_D (fun q : Nat => s.heap.size ≤ q) (([(ob, .inl (k 4, 1, .inr (.inl u.1)))] ++ (wd k b (fun j => j) u.2 (de_D0 X) ++ [(od, .inl (k 1, 1, wd_d q))])) ++ (wm k b2 mo_I0 D2 ++ [])) := by rw [← lw_M]; exact hD
  refine sg_i (va_runV (As := [.int (xs 1)]) (rest := []) ⟨hx, hb, hml, hown, hts⟩ (kMo_count l dC dI k b2 mo_I0 D2 _ (xs 1) 0 (by decide) rfl (fun i hi => absurd hi (Nat.not_lt_zero _)) (fun j hj => (FX.2 j hj).1) (fun j hj => (FX.2 j hj).2)) (cwV 1 hts (gw_V tw_871 tw_872 tw_873 tw_9 tw_874) rfl rfl rfl (by decide +kernel) ⟨Nat.le_of_ble_eq_true rfl, Nat.le_of_ble_eq_true rfl⟩) ⟨ct_blind (ev := fun _ => True) (fun _ _ _ _ h => h), va_recv hK (sg_Pc hP) (ci := 8) (q0 := 0) rfl rfl, ct_now (A := (fun q : Nat => s.heap.size ≤ q)) (ev := fun _ => True) (fun _ _ _ => trivial) (sg_Pc hP) (hK.sub (tys' := mo_ty k) [0, 1] rfl) (sg_Dc hD)⟩ rfl rfl hl.1 rfl (lv_room (Nat.le_of_ble_eq_true rfl)) dlaw_1153 ⟨Nat.le_of_ble_eq_true rfl, Nat.le_of_ble_eq_true rfl⟩) hP hD hS (fun _ h => h) (fun r2 u2 H locs hm hP hD hS => ?_)
  have hP : va_P (dC, dI) vwCl (lw k b (fun j => j) u.2 (de_D0 X) b2 u2 D2 ob u.1 od q) H := by rw [lw_M]; exact hP
  have hD : va_D (fun q : Nat => s.heap.size ≤ q) (lw k b (fun j => j) u.2 (de_D0 X) b2 u2 D2 ob u.1 od q) := by rw [lw_M]; exact hD
  refine lv_istore (lv' := [(7, .int r2), (6, .int r), (5, .int (nI 0)), (4, .ref od), (3, .ref ob), (2, .ref (b2 0)), (1, .ref (b 0)), (0, .ref sb)]) hx hb dlaw_1156 hl (by decide) rfl (fun ls hl => ?_)
  refine lv_aload_n hx hb dlaw_1158 rfl (lv_at hl 5 rfl) ?_
  have hP : va_P (dC, dI) vwCl (([(ob, .inl (k 4, 1, .inr (.inl u.1)))] ++ (wd k b (fun j => j) u.2 (de_D0 X) ++ [(od, .inl (k 1, 1, wd_d q))])) ++ (wm k b2 u2 D2 ++ [])) H := by rw [← lw_M]; exact hP
  have hD : va_D (fun q : Nat => s.heap.size ≤ q) (([(ob, .inl (k 4, 1, .inr (.inl u.1)))] ++ (wd k b (fun j => j) u.2 (de_D0 X) ++ [(od, .inl (k 1, 1, wd_d q))])) ++ (wm k b2 u2 D2 ++ [])) := by rw [← lw_M]; exact hD
  refine sg_i (va_runV (As := []) (rest := []) ⟨hx, hb, hml, hown, hts⟩ (kMo_thrown l dC dI k b2 u2 D2 _ ) (cwV 0 hts (gw_V tw_729 tw_730 tw_731 tw_9 tw_732) rfl rfl rfl (by decide +kernel) ⟨Nat.le_of_ble_eq_true rfl, Nat.le_of_ble_eq_true rfl⟩) ⟨ct_blind (ev := fun _ => True) (fun _ _ _ _ h => h), va_recv hK (sg_Pc hP) (ci := 8) (q0 := 0) rfl rfl, ct_now (A := (fun q : Nat => s.heap.size ≤ q)) (ev := fun _ => True) (fun _ _ _ => trivial) (sg_Pc hP) (hK.sub (tys' := mo_ty k) [0, 1] rfl) (sg_Dc hD)⟩ rfl rfl hl.1 rfl (lv_room (Nat.le_of_ble_eq_true rfl)) dlaw_1159 ⟨Nat.le_of_ble_eq_true rfl, Nat.le_of_ble_eq_true rfl⟩) hP hD hS (fun _ h => h) (fun r3 u3 H locs ht hP hD hS => ?_)
  have hP : va_P (dC, dI) vwCl (lw k b (fun j => j) u.2 (de_D0 X) b2 u2 D2 ob u.1 od q) H := by rw [lw_M]; exact hP
  have hD : va_D (fun q : Nat => s.heap.size ≤ q) (lw k b (fun j => j) u.2 (de_D0 X) b2 u2 D2 ob u.1 od q) := by rw [lw_M]; exact hD
  subst ht
  have hag := ag_count (I := de_I0) (D := de_D0 X) (I2 := mo_I0) (D2 := D2) (r2 := r2) (xs 1) 0 (by decide) rfl 0 (by decide) rfl rfl rfl rfl rfl hc hm
  refine rw_i (y := r) hag.1 ?_
  refine lv_iload hx hb dlaw_1162 (lv_at hl 1 rfl) ?_
  refine lv_icmp_eq (tgt := 1169) hx hb dlaw_1164 (by decide) (fun c1164 => ?_) (fun c1164 => ?_)
  · refine lv_iload hx hb dlaw_1169 (lv_at hl 1 rfl) ?_
    refine lv_if_ne (tgt := 1186) hx hb dlaw_1171 (by decide) (fun c1171 => ?_) (fun c1171 => ?_)
    · refine lv_goto (tgt := 1189) hx hb dlaw_1186 (by decide) ?_
      exact K _ _ _ hS (lv_sub hl [2, 7] rfl)
    · have hz := hag.2 (show r = nI 0 from c1171)
      refine lv_aload_n hx hb dlaw_1174 rfl (lv_at hl 4 rfl) ?_
      refine lv_iconst (v := nI 0) hx hb dlaw_1175 (by decide +kernel) ?_
      refine rw_ald_l (k := 0) hx hb hK hP 0 4 rfl rfl (by decide) (by decide) dlaw_1176 ?_
      refine rw_l (y := r2.toInt64) hz ?_
      refine lv_iload hx hb dlaw_1177 (lv_at hl 0 rfl) ?_
      refine lv_i2l (v := r2.toInt64) hx hb dlaw_1179 rfl ?_
      refine W.lcmp hx hb dlaw_1180 ?_
      refine lv_if_eq (tgt := 1186) hx hb dlaw_1181 (by decide) (fun c1181 => ?_) (fun c1181 => ?_)
      · refine lv_goto (tgt := 1189) hx hb dlaw_1186 (by decide) ?_
        exact K _ _ _ hS (lv_sub hl [2, 7] rfl)
      · exact absurd ((lg_cmp_eq _ _).mpr rfl) c1181
  · exact absurd rfl c1164
