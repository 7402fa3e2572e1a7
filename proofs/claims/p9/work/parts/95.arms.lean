set_option maxHeartbeats 4000000 in
set_option maxRecDepth 100000 in
theorem ar_ways {p : Program} {e : Env} {s : State} {m : MethodId} {below : List Frame} {meth : Method} {c : Code} {Q : State → Prop} (l : Launch) {sb L : Nat} {xs : Nat → Int32} (t : Nat) (hL4 : 4 * t + 4 ≤ L) (hLb : L ≤ 2048) {dC : Nat → ClassId} {dI : Nat → Nat → Nat} {k : Nat → ClassId} (CX : la_cx p l s m c sb L xs dC dI k) {b b2 : Nat → Nat} {P : Nat → Nat} {I I2 : Nat → Nat → Int32} {D D2 : Nat → Nat → UInt64} {ob od : Nat} {o : Nat → Int64} {q : Nat → UInt64} (RX : rx P I D I2 D2) {H : Heap} {locs : List Loc} {ls : Array Slot} {cells slots : Nat} (hcc : cells + 1 ≤ 601024) (hss : slots + 6 ≤ 7293034) (hP : va_P (dC, dI) vwCl (lw k b P I D b2 I2 D2 ob o od q) H) (hD : va_D (fun q : Nat => s.heap.size ≤ q) (lw k b P I D b2 I2 D2 ob o od q)) (hS : va_S (fun q : Nat => s.heap.size ≤ q) s.heap H locs) (hl : lv_has ls 9 [(5, .int (nI (4 * t))), (4, .ref od), (3, .ref ob), (2, .ref (b2 0)), (1, .ref (b 0)), (0, .ref sb)]) (K : ∀ (P : Nat → Nat) (I : Nat → Nat → Int32) (D : Nat → Nat → UInt64) (I2 : Nat → Nat → Int32) (D2 : Nat → Nat → UInt64) (o : Nat → Int64) (q : Nat → UInt64) (H : Heap) (locs : List Loc) (ls : Array Slot), rx P I D I2 D2 → va_P (dC, dI) vwCl (lw k b P I D b2 I2 D2 ob o od q) H → va_D (fun q : Nat => s.heap.size ≤ q) (lw k b P I D b2 I2 D2 ob o od q) → va_S (fun q : Nat => s.heap.size ≤ q) s.heap H locs → lv_has ls 9 [(5, .int (nI (4 * t))), (4, .ref od), (3, .ref ob), (2, .ref (b2 0)), (1, .ref (b 0)), (0, .ref sb)] → W p l e room_1 s m #[Value.ref sb] below meth c H locs (cells + 1) (slots + 6) Q (F0 m 762 ls [])) : W p l e room_1 s m #[Value.ref sb] below meth c H locs cells slots Q (F0 m 459 ls []) := by
  obtain ⟨hx, hb, hml, hown, hts, hX, hbl, hK, hE, hln⟩ := CX
  obtain ⟨n, oc, ns, gp, np, rw9, nw, jd9, R⟩ := RX
  obtain ⟨hF9, hS9, hM9, hP9, hW9, hJ9, hT9⟩ := id R
  have hs2 : ∀ i, i < ns → fb_ 1057 (D2 1 i) := fun i hi => by rw [hS9.2.2.2.2 i hi]; exact hS9.2.2.2.1 i hi
  have hr2 : ∀ j, j < np → I2 3 j = nI (rw9 j) ∧ 1 ≤ rw9 j ∧ rw9 j ≤ 8 := fun j hj => ⟨hP9.2.2.2.2.2.2.2.1 j hj, (hP9.2.2.2.2.2.2.1 j hj).2⟩
  have hl2 : ∀ j, j < np → ∀ q, q < 4 * rw9 j → fb_ 1155 (D2 2 (32 * j + q)) := fun j hj q hq => by rw [hP9.2.2.2.2.2.2.2.2.2 j hj q hq]; exact hP9.2.2.2.2.2.2.2.2.1 j hj q hq
  refine lv_aload_n hx hb dlaw_459 rfl (lv_at hl 4 rfl) ?_
  refine lv_aload_n hx hb dlaw_460 rfl (lv_at hl 5 rfl) ?_
  refine lv_iload hx hb dlaw_461 (lv_at hl 0 rfl) ?_
  refine lv_iconst (v := nI 1) hx hb dlaw_463 (by decide +kernel) ?_
  refine lv_iadd hx hb dlaw_464 ?_
  refine rw_i (y := nI (4 * t + 1)) (nI_add _ _) ?_
  refine rw_sld (k := (4 * t + 1)) hx hb hX hbl (Nat.not_le.mpr hbl) hS (by omega) (by omega) dlaw_465 ?_
  refine lv_i2d hx hb dlaw_466 ?_
  refine lv_ldc2d (v := 4593671619917905920) hx hb hown (hts _ tw_877) dlaw_467 ?_
  refine lv_dmul hx hb dlaw_470 (fb_n (fb_w8 _) (by decide)) ?_
  refine lv_aload_n hx hb dlaw_471 rfl (lv_at hl 5 rfl) ?_
  refine lv_iload hx hb dlaw_472 (lv_at hl 0 rfl) ?_
  refine lv_iconst (v := nI 2) hx hb dlaw_474 (by decide +kernel) ?_
  refine lv_iadd hx hb dlaw_475 ?_
  refine rw_i (y := nI (4 * t + 2)) (nI_add _ _) ?_
  refine rw_sld (k := (4 * t + 2)) hx hb hX hbl (Nat.not_le.mpr hbl) hS (by omega) (by omega) dlaw_476 ?_
  refine lv_aload_n hx hb dlaw_477 rfl (lv_at hl 5 rfl) ?_
  refine lv_iload hx hb dlaw_478 (lv_at hl 0 rfl) ?_
  refine lv_iconst (v := nI 3) hx hb dlaw_480 (by decide +kernel) ?_
  refine lv_iadd hx hb dlaw_481 ?_
  refine rw_i (y := nI (4 * t + 3)) (nI_add _ _) ?_
  refine rw_sld (k := (4 * t + 3)) hx hb hX hbl (Nat.not_le.mpr hbl) hS (by omega) (by omega) dlaw_482 ?_
  refine lv_i2d hx hb dlaw_483 ?_
  refine lv_ldc2d (v := 4593671619917905920) hx hb hown (hts _ tw_877) dlaw_484 ?_
  refine lv_dmul hx hb dlaw_487 (fb_n (fb_w8 _) (by decide)) ?_
  have hP : va_P (dC, dI) vwCl ([(ob, .inl (k 4, 1, .inr (.inl o)))] ++ (wd k b P I D ++ ([(od, .inl (k 1, 1, wd_d q))] ++ wm k b2 I2 D2))) H := by rw [← lw_C]; exact hP
  have hD : va_D (fun q : Nat => s.heap.size ≤ q) ([(ob, .inl (k 4, 1, .inr (.inl o)))] ++ (wd k b P I D ++ ([(od, .inl (k 1, 1, wd_d q))] ++ wm k b2 I2 D2))) := by rw [← lw_C]; exact hD
  refine sg_i (sw_runS (ws' := []) (n := 4) (As := [.ref (b 0), .double (FP.dmul (FP.i2d (xs (4 * t + 1))) 4593671619917905920), .int (xs (4 * t + 2)), .double (FP.dmul (FP.i2d (xs (4 * t + 3))) 4593671619917905920)]) (rest := []) ⟨hx, hb, hml, hown, hts⟩ (hLa_ways l hln dC dI k b P I D _ (FP.dmul (FP.i2d (xs (4 * t + 1))) 4593671619917905920) (FP.dmul (FP.i2d (xs (4 * t + 3))) 4593671619917905920) (xs (4 * t + 2))) rfl rfl (Nat.le_of_ble_eq_true rfl) (Nat.le_of_ble_eq_true rfl) tw_490 tw_489 tw_0 tw_488 (by decide +kernel) ⟨ct_blind (ev := ev_L) ev_L.blind, ct_now (A := (fun q : Nat => s.heap.size ≤ q)) (ev := ev_L) (fun U hU hW9 => hE.to hW9 (st_law hS hU)) (sg_Pc hP) hK (sg_Dc hD)⟩ rfl rfl hl.1 rfl (lv_room (Nat.le_of_ble_eq_true rfl)) dlaw_488 ⟨hcc, hss⟩) hP hD hS (fun _ h => h) (fun r u H locs hc hP hD hS => ?_)
  have hP : va_P (dC, dI) vwCl (lw k b P u.1 u.2 b2 I2 D2 ob o od q) H := by rw [lw_C]; exact hP
  have hD : va_D (fun q : Nat => s.heap.size ≤ q) (lw k b P u.1 u.2 b2 I2 D2 ob o od q) := by rw [lw_C]; exact hD
  refine lv_istore (lv' := [(6, .int r), (5, .int (nI (4 * t))), (4, .ref od), (3, .ref ob), (2, .ref (b2 0)), (1, .ref (b 0)), (0, .ref sb)]) hx hb dlaw_491 hl (by decide) rfl (fun ls hl => ?_)
  refine lv_aload_n hx hb dlaw_493 rfl (lv_at hl 4 rfl) ?_
  refine lv_aload_n hx hb dlaw_494 rfl (lv_at hl 6 rfl) ?_
  refine lv_iload hx hb dlaw_495 (lv_at hl 1 rfl) ?_
  refine lv_iconst (v := nI 1) hx hb dlaw_497 (by decide +kernel) ?_
  refine lv_iadd hx hb dlaw_498 ?_
  refine rw_i (y := nI (4 * t + 1)) (nI_add _ _) ?_
  refine rw_sld (k := (4 * t + 1)) hx hb hX hbl (Nat.not_le.mpr hbl) hS (by omega) (by omega) dlaw_499 ?_
  refine lv_i2d hx hb dlaw_500 ?_
  refine lv_ldc2d (v := 4593671619917905920) hx hb hown (hts _ tw_877) dlaw_501 ?_
  refine lv_dmul hx hb dlaw_504 (fb_n (fb_w8 _) (by decide)) ?_
  refine lv_aload_n hx hb dlaw_505 rfl (lv_at hl 6 rfl) ?_
  refine lv_iload hx hb dlaw_506 (lv_at hl 1 rfl) ?_
  refine lv_iconst (v := nI 2) hx hb dlaw_508 (by decide +kernel) ?_
  refine lv_iadd hx hb dlaw_509 ?_
  refine rw_i (y := nI (4 * t + 2)) (nI_add _ _) ?_
  refine rw_sld (k := (4 * t + 2)) hx hb hX hbl (Nat.not_le.mpr hbl) hS (by omega) (by omega) dlaw_510 ?_
  refine lv_aload_n hx hb dlaw_511 rfl (lv_at hl 6 rfl) ?_
  refine lv_iload hx hb dlaw_512 (lv_at hl 1 rfl) ?_
  refine lv_iconst (v := nI 3) hx hb dlaw_514 (by decide +kernel) ?_
  refine lv_iadd hx hb dlaw_515 ?_
  refine rw_i (y := nI (4 * t + 3)) (nI_add _ _) ?_
  refine rw_sld (k := (4 * t + 3)) hx hb hX hbl (Nat.not_le.mpr hbl) hS (by omega) (by omega) dlaw_516 ?_
  refine lv_i2d hx hb dlaw_517 ?_
  refine lv_ldc2d (v := 4593671619917905920) hx hb hown (hts _ tw_877) dlaw_518 ?_
  refine lv_dmul hx hb dlaw_521 (fb_n (fb_w8 _) (by decide)) ?_
  have hP : va_P (dC, dI) vwCl (([(ob, .inl (k 4, 1, .inr (.inl o)))] ++ (wd k b P u.1 u.2 ++ [(od, .inl (k 1, 1, wd_d q))])) ++ (wm k b2 I2 D2 ++ [])) H := by rw [← lw_M]; exact hP
  have hD : va_D (fun q : Nat => s.heap.size ≤ q) (([(ob, .inl (k 4, 1, .inr (.inl o)))] ++ (wd k b P u.1 u.2 ++ [(od, .inl (k 1, 1, wd_d q))])) ++ (wm k b2 I2 D2 ++ [])) := by rw [← lw_M]; exact hD
  refine sg_v (va_runV (As := [.double (FP.dmul (FP.i2d (xs (4 * t + 1))) 4593671619917905920), .int (xs (4 * t + 2)), .double (FP.dmul (FP.i2d (xs (4 * t + 3))) 4593671619917905920)]) (rest := []) ⟨hx, hb, hml, hown, hts⟩ (kMo_ways l dC dI k b2 I2 D2 _ (FP.dmul (FP.i2d (xs (4 * t + 1))) 4593671619917905920) (FP.dmul (FP.i2d (xs (4 * t + 3))) 4593671619917905920) (xs (4 * t + 2))) (cwV 3 hts (gw_V tw_823 tw_824 tw_825 tw_9 tw_826) rfl rfl rfl (by decide +kernel) ⟨Nat.le_of_ble_eq_true rfl, Nat.le_of_ble_eq_true rfl⟩) ⟨ct_blind (ev := fun _ => True) (fun _ _ _ _ h => h), va_recv hK (sg_Pc hP) (ci := 8) (q0 := 0) rfl rfl, ct_now (A := (fun q : Nat => s.heap.size ≤ q)) (ev := fun _ => True) (fun _ _ _ => trivial) (sg_Pc hP) (hK.sub (tys' := mo_ty k) [0, 1] rfl) (sg_Dc hD)⟩ rfl rfl hl.1 rfl (lv_room (Nat.le_of_ble_eq_true rfl)) dlaw_522 ⟨hcc, hss⟩) hP hD hS (fun _ h => h) (fun u2 H locs hm hP hD hS => ?_)
  have hP : va_P (dC, dI) vwCl (lw k b P u.1 u.2 b2 u2.1 u2.2 ob o od q) H := by rw [lw_M]; exact hP
  have hD : va_D (fun q : Nat => s.heap.size ≤ q) (lw k b P u.1 u.2 b2 u2.1 u2.2 ob o od q) := by rw [lw_M]; exact hD
  refine lv_goto (tgt := 762) hx hb dlaw_525 (by decide) ?_
  have hag := ag_ways R (FP.dmul (FP.i2d (xs (4 * t + 1))) 4593671619917905920) (FP.dmul (FP.i2d (xs (4 * t + 3))) 4593671619917905920) (xs (4 * t + 2)) hc hm
  exact K _ _ _ _ _ _ _ _ _ _ hag.2 hP hD hS (lv_sub hl [1, 2, 3, 4, 5, 6] rfl)
set_option maxHeartbeats 4000000 in
set_option maxRecDepth 100000 in
theorem ar_learn {p : Program} {e : Env} {s : State} {m : MethodId} {below : List Frame} {meth : Method} {c : Code} {Q : State → Prop} (l : Launch) {sb L : Nat} {xs : Nat → Int32} (t : Nat) (hL4 : 4 * t + 4 ≤ L) (hLb : L ≤ 2048) {dC : Nat → ClassId} {dI : Nat → Nat → Nat} {k : Nat → ClassId} (CX : la_cx p l s m c sb L xs dC dI k) {b b2 : Nat → Nat} {P : Nat → Nat} {I I2 : Nat → Nat → Int32} {D D2 : Nat → Nat → UInt64} {ob od : Nat} {o : Nat → Int64} {q : Nat → UInt64} (RX : rx P I D I2 D2) {H : Heap} {locs : List Loc} {ls : Array Slot} {cells slots : Nat} (hcc : cells + 1 ≤ 601024) (hss : slots + 6 ≤ 7293034) (hP : va_P (dC, dI) vwCl (lw k b P I D b2 I2 D2 ob o od q) H) (hD : va_D (fun q : Nat => s.heap.size ≤ q) (lw k b P I D b2 I2 D2 ob o od q)) (hS : va_S (fun q : Nat => s.heap.size ≤ q) s.heap H locs) (hl : lv_has ls 9 [(5, .int (nI (4 * t))), (4, .ref od), (3, .ref ob), (2, .ref (b2 0)), (1, .ref (b 0)), (0, .ref sb)]) (K : ∀ (P : Nat → Nat) (I : Nat → Nat → Int32) (D : Nat → Nat → UInt64) (I2 : Nat → Nat → Int32) (D2 : Nat → Nat → UInt64) (o : Nat → Int64) (q : Nat → UInt64) (H : Heap) (locs : List Loc) (ls : Array Slot), rx P I D I2 D2 → va_P (dC, dI) vwCl (lw k b P I D b2 I2 D2 ob o od q) H → va_D (fun q : Nat => s.heap.size ≤ q) (lw k b P I D b2 I2 D2 ob o od q) → va_S (fun q : Nat => s.heap.size ≤ q) s.heap H locs → lv_has ls 9 [(5, .int (nI (4 * t))), (4, .ref od), (3, .ref ob), (2, .ref (b2 0)), (1, .ref (b 0)), (0, .ref sb)] → W p l e room_1 s m #[Value.ref sb] below meth c H locs (cells + 1) (slots + 6) Q (F0 m 762 ls [])) : W p l e room_1 s m #[Value.ref sb] below meth c H locs cells slots Q (F0 m 528 ls []) := by
  obtain ⟨hx, hb, hml, hown, hts, hX, hbl, hK, hE, hln⟩ := CX
  obtain ⟨n, oc, ns, gp, np, rw9, nw, jd9, R⟩ := RX
  obtain ⟨hF9, hS9, hM9, hP9, hW9, hJ9, hT9⟩ := id R
  have hs2 : ∀ i, i < ns → fb_ 1057 (D2 1 i) := fun i hi => by rw [hS9.2.2.2.2 i hi]; exact hS9.2.2.2.1 i hi
  have hr2 : ∀ j, j < np → I2 3 j = nI (rw9 j) ∧ 1 ≤ rw9 j ∧ rw9 j ≤ 8 := fun j hj => ⟨hP9.2.2.2.2.2.2.2.1 j hj, (hP9.2.2.2.2.2.2.1 j hj).2⟩
  have hl2 : ∀ j, j < np → ∀ q, q < 4 * rw9 j → fb_ 1155 (D2 2 (32 * j + q)) := fun j hj q hq => by rw [hP9.2.2.2.2.2.2.2.2.2 j hj q hq]; exact hP9.2.2.2.2.2.2.2.2.1 j hj q hq
  refine lv_aload_n hx hb dlaw_528 rfl (lv_at hl 4 rfl) ?_
  refine lv_aload_n hx hb dlaw_529 rfl (lv_at hl 5 rfl) ?_
  refine lv_iload hx hb dlaw_530 (lv_at hl 0 rfl) ?_
  refine lv_iconst (v := nI 1) hx hb dlaw_532 (by decide +kernel) ?_
  refine lv_iadd hx hb dlaw_533 ?_
  refine rw_i (y := nI (4 * t + 1)) (nI_add _ _) ?_
  refine rw_sld (k := (4 * t + 1)) hx hb hX hbl (Nat.not_le.mpr hbl) hS (by omega) (by omega) dlaw_534 ?_
  refine lv_aload_n hx hb dlaw_535 rfl (lv_at hl 5 rfl) ?_
  refine lv_iload hx hb dlaw_536 (lv_at hl 0 rfl) ?_
  refine lv_iconst (v := nI 2) hx hb dlaw_538 (by decide +kernel) ?_
  refine lv_iadd hx hb dlaw_539 ?_
  refine rw_i (y := nI (4 * t + 2)) (nI_add _ _) ?_
  refine rw_sld (k := (4 * t + 2)) hx hb hX hbl (Nat.not_le.mpr hbl) hS (by omega) (by omega) dlaw_540 ?_
  refine lv_aload_n hx hb dlaw_541 rfl (lv_at hl 5 rfl) ?_
  refine lv_iload hx hb dlaw_542 (lv_at hl 0 rfl) ?_
  refine lv_iconst (v := nI 3) hx hb dlaw_544 (by decide +kernel) ?_
  refine lv_iadd hx hb dlaw_545 ?_
  refine rw_i (y := nI (4 * t + 3)) (nI_add _ _) ?_
  refine rw_sld (k := (4 * t + 3)) hx hb hX hbl (Nat.not_le.mpr hbl) hS (by omega) (by omega) dlaw_546 ?_
  refine lv_aload_n hx hb dlaw_547 rfl (lv_at hl 2 rfl) ?_
  have hP : va_P (dC, dI) vwCl ([] ++ (((ob, .inl (k 4, 1, .inr (.inl o))) :: wd k b P I D) ++ ([(od, .inl (k 1, 1, wd_d q))] ++ wm k b2 I2 D2))) H := by rw [← lw_L]; exact hP
  have hD : va_D (fun q : Nat => s.heap.size ≤ q) ([] ++ (((ob, .inl (k 4, 1, .inr (.inl o))) :: wd k b P I D) ++ ([(od, .inl (k 1, 1, wd_d q))] ++ wm k b2 I2 D2))) := by rw [← lw_L]; exact hD
  refine sg_i (sw_runS (ws' := []) (n := 5) (As := [.ref (b 0), .int (xs (4 * t + 1)), .int (xs (4 * t + 2)), .int (xs (4 * t + 3)), .ref ob]) (rest := []) ⟨hx, hb, hml, hown, hts⟩ (hLa_learn l hln dC dI k b P I D _ ob o (xs (4 * t + 1)) (xs (4 * t + 2)) (xs (4 * t + 3)) ns hS9.1 hS9.2.1 hS9.2.2.2.1 hT9.1 hT9.2.1 hT9.2.2.1 jd9 hJ9.1 hJ9.2.1 hJ9.2.2.1 hJ9.2.2.2 np hP9.1 hP9.2.1 hP9.2.2.2.1) rfl rfl (Nat.le_of_ble_eq_true rfl) (Nat.le_of_ble_eq_true rfl) tw_498 tw_497 tw_0 tw_496 (by decide +kernel) ⟨ct_blind (ev := ev_L) ev_L.blind, ct_now (A := (fun q : Nat => s.heap.size ≤ q)) (ev := ev_L) (fun U hU hW9 => hE.to hW9 (st_law hS hU)) (sg_Pc hP) hK (sg_Dc hD)⟩ rfl rfl hl.1 rfl (lv_room (Nat.le_of_ble_eq_true rfl)) dlaw_548 ⟨hcc, hss⟩) hP hD hS (fun _ h => h) (fun r u H locs hc hP hD hS => ?_)
  have hP : va_P (dC, dI) vwCl (lw k b P u.2.1 u.2.2 b2 I2 D2 ob u.1 od q) H := by rw [lw_L]; exact hP
  have hD : va_D (fun q : Nat => s.heap.size ≤ q) (lw k b P u.2.1 u.2.2 b2 I2 D2 ob u.1 od q) := by rw [lw_L]; exact hD
  refine lv_istore (lv' := [(6, .int r), (5, .int (nI (4 * t))), (4, .ref od), (3, .ref ob), (2, .ref (b2 0)), (1, .ref (b 0)), (0, .ref sb)]) hx hb dlaw_551 hl (by decide) rfl (fun ls hl => ?_)
  refine lv_aload_n hx hb dlaw_553 rfl (lv_at hl 4 rfl) ?_
  refine lv_aload_n hx hb dlaw_554 rfl (lv_at hl 6 rfl) ?_
  refine lv_iload hx hb dlaw_555 (lv_at hl 1 rfl) ?_
  refine lv_iconst (v := nI 1) hx hb dlaw_557 (by decide +kernel) ?_
  refine lv_iadd hx hb dlaw_558 ?_
  refine rw_i (y := nI (4 * t + 1)) (nI_add _ _) ?_
  refine rw_sld (k := (4 * t + 1)) hx hb hX hbl (Nat.not_le.mpr hbl) hS (by omega) (by omega) dlaw_559 ?_
  refine lv_aload_n hx hb dlaw_560 rfl (lv_at hl 6 rfl) ?_
  refine lv_iload hx hb dlaw_561 (lv_at hl 1 rfl) ?_
  refine lv_iconst (v := nI 2) hx hb dlaw_563 (by decide +kernel) ?_
  refine lv_iadd hx hb dlaw_564 ?_
  refine rw_i (y := nI (4 * t + 2)) (nI_add _ _) ?_
  refine rw_sld (k := (4 * t + 2)) hx hb hX hbl (Nat.not_le.mpr hbl) hS (by omega) (by omega) dlaw_565 ?_
  refine lv_aload_n hx hb dlaw_566 rfl (lv_at hl 6 rfl) ?_
  refine lv_iload hx hb dlaw_567 (lv_at hl 1 rfl) ?_
  refine lv_iconst (v := nI 3) hx hb dlaw_569 (by decide +kernel) ?_
  refine lv_iadd hx hb dlaw_570 ?_
  refine rw_i (y := nI (4 * t + 3)) (nI_add _ _) ?_
  refine rw_sld (k := (4 * t + 3)) hx hb hX hbl (Nat.not_le.mpr hbl) hS (by omega) (by omega) dlaw_571 ?_
  have hP : va_P (dC, dI) vwCl (([(ob, .inl (k 4, 1, .inr (.inl u.1)))] ++ (wd k b P u.2.1 u.2.2 ++ [(od, .inl (k 1, 1, wd_d q))])) ++ (wm k b2 I2 D2 ++ [])) H := by rw [← lw_M]; exact hP
  have hD : va_D (fun q : Nat => s.heap.size ≤ q) (([(ob, .inl (k 4, 1, .inr (.inl u.1)))] ++ (wd k b P u.2.1 u.2.2 ++ [(od, .inl (k 1, 1, wd_d q))])) ++ (wm k b2 I2 D2 ++ [])) := by rw [← lw_M]; exact hD
  refine sg_i (va_runV (As := [.int (xs (4 * t + 1)), .int (xs (4 * t + 2)), .int (xs (4 * t + 3))]) (rest := []) ⟨hx, hb, hml, hown, hts⟩ (kMo_learn l dC dI k b2 I2 D2 _ (xs (4 * t + 1)) (xs (4 * t + 2)) (xs (4 * t + 3)) ns hS9.1 hS9.2.2.1 hs2 hT9.2.2.2.1 hT9.2.2.2.2 np hP9.1 hP9.2.2.1) (cwV 3 hts (gw_V tw_828 tw_829 tw_830 tw_9 tw_831) rfl rfl rfl (by decide +kernel) ⟨Nat.le_of_ble_eq_true rfl, Nat.le_of_ble_eq_true rfl⟩) ⟨ct_blind (ev := fun _ => True) (fun _ _ _ _ h => h), va_recv hK (sg_Pc hP) (ci := 8) (q0 := 0) rfl rfl, ct_now (A := (fun q : Nat => s.heap.size ≤ q)) (ev := fun _ => True) (fun _ _ _ => trivial) (sg_Pc hP) (hK.sub (tys' := mo_ty k) [0, 1] rfl) (sg_Dc hD)⟩ rfl rfl hl.1 rfl (lv_room (Nat.le_of_ble_eq_true rfl)) dlaw_572 ⟨hcc, hss⟩) hP hD hS (fun _ h => h) (fun r2 u2 H locs hm hP hD hS => ?_)
  have hP : va_P (dC, dI) vwCl (lw k b P u.2.1 u.2.2 b2 u2.1 (us D2 2 u2.2) ob u.1 od q) H := by rw [lw_M]; exact hP
  have hD : va_D (fun q : Nat => s.heap.size ≤ q) (lw k b P u.2.1 u.2.2 b2 u2.1 (us D2 2 u2.2) ob u.1 od q) := by rw [lw_M]; exact hD
  refine lv_istore (lv' := [(7, .int r2), (6, .int r), (5, .int (nI (4 * t))), (4, .ref od), (3, .ref ob), (2, .ref (b2 0)), (1, .ref (b 0)), (0, .ref sb)]) hx hb dlaw_575 hl (by decide) rfl (fun ls hl => ?_)
  refine lv_goto (tgt := 762) hx hb dlaw_577 (by decide) ?_
  have hag := ag_learn R (xs (4 * t + 1)) (xs (4 * t + 2)) (xs (4 * t + 3)) hc hm
  exact K _ _ _ _ _ _ _ _ _ _ hag.2.2 hP hD hS (lv_sub hl [2, 3, 4, 5, 6, 7] rfl)
set_option maxHeartbeats 4000000 in
set_option maxRecDepth 100000 in
theorem ar_forget {p : Program} {e : Env} {s : State} {m : MethodId} {below : List Frame} {meth : Method} {c : Code} {Q : State → Prop} (l : Launch) {sb L : Nat} {xs : Nat → Int32} (t : Nat) (hL4 : 4 * t + 4 ≤ L) (hLb : L ≤ 2048) {dC : Nat → ClassId} {dI : Nat → Nat → Nat} {k : Nat → ClassId} (CX : la_cx p l s m c sb L xs dC dI k) {b b2 : Nat → Nat} {P : Nat → Nat} {I I2 : Nat → Nat → Int32} {D D2 : Nat → Nat → UInt64} {ob od : Nat} {o : Nat → Int64} {q : Nat → UInt64} (RX : rx P I D I2 D2) {H : Heap} {locs : List Loc} {ls : Array Slot} {cells slots : Nat} (hcc : cells + 1 ≤ 601024) (hss : slots + 6 ≤ 7293034) (hP : va_P (dC, dI) vwCl (lw k b P I D b2 I2 D2 ob o od q) H) (hD : va_D (fun q : Nat => s.heap.size ≤ q) (lw k b P I D b2 I2 D2 ob o od q)) (hS : va_S (fun q : Nat => s.heap.size ≤ q) s.heap H locs) (hl : lv_has ls 9 [(5, .int (nI (4 * t))), (4, .ref od), (3, .ref ob), (2, .ref (b2 0)), (1, .ref (b 0)), (0, .ref sb)]) (K : ∀ (P : Nat → Nat) (I : Nat → Nat → Int32) (D : Nat → Nat → UInt64) (I2 : Nat → Nat → Int32) (D2 : Nat → Nat → UInt64) (o : Nat → Int64) (q : Nat → UInt64) (H : Heap) (locs : List Loc) (ls : Array Slot), rx P I D I2 D2 → va_P (dC, dI) vwCl (lw k b P I D b2 I2 D2 ob o od q) H → va_D (fun q : Nat => s.heap.size ≤ q) (lw k b P I D b2 I2 D2 ob o od q) → va_S (fun q : Nat => s.heap.size ≤ q) s.heap H locs → lv_has ls 9 [(5, .int (nI (4 * t))), (4, .ref od), (3, .ref ob), (2, .ref (b2 0)), (1, .ref (b 0)), (0, .ref sb)] → W p l e room_1 s m #[Value.ref sb] below meth c H locs (cells + 1) (slots + 6) Q (F0 m 762 ls [])) : W p l e room_1 s m #[Value.ref sb] below meth c H locs cells slots Q (F0 m 580 ls []) := by
  obtain ⟨hx, hb, hml, hown, hts, hX, hbl, hK, hE, hln⟩ := CX
  obtain ⟨n, oc, ns, gp, np, rw9, nw, jd9, R⟩ := RX
  obtain ⟨hF9, hS9, hM9, hP9, hW9, hJ9, hT9⟩ := id R
  have hs2 : ∀ i, i < ns → fb_ 1057 (D2 1 i) := fun i hi => by rw [hS9.2.2.2.2 i hi]; exact hS9.2.2.2.1 i hi
  have hr2 : ∀ j, j < np → I2 3 j = nI (rw9 j) ∧ 1 ≤ rw9 j ∧ rw9 j ≤ 8 := fun j hj => ⟨hP9.2.2.2.2.2.2.2.1 j hj, (hP9.2.2.2.2.2.2.1 j hj).2⟩
  have hl2 : ∀ j, j < np → ∀ q, q < 4 * rw9 j → fb_ 1155 (D2 2 (32 * j + q)) := fun j hj q hq => by rw [hP9.2.2.2.2.2.2.2.2.2 j hj q hq]; exact hP9.2.2.2.2.2.2.2.2.1 j hj q hq
  refine lv_aload_n hx hb dlaw_580 rfl (lv_at hl 4 rfl) ?_
  refine lv_aload_n hx hb dlaw_581 rfl (lv_at hl 5 rfl) ?_
  refine lv_iload hx hb dlaw_582 (lv_at hl 0 rfl) ?_
  refine lv_iconst (v := nI 1) hx hb dlaw_584 (by decide +kernel) ?_
  refine lv_iadd hx hb dlaw_585 ?_
  refine rw_i (y := nI (4 * t + 1)) (nI_add _ _) ?_
  refine rw_sld (k := (4 * t + 1)) hx hb hX hbl (Nat.not_le.mpr hbl) hS (by omega) (by omega) dlaw_586 ?_
  refine lv_aload_n hx hb dlaw_587 rfl (lv_at hl 2 rfl) ?_
  have hP : va_P (dC, dI) vwCl ([] ++ (((ob, .inl (k 4, 1, .inr (.inl o))) :: wd k b P I D) ++ ([(od, .inl (k 1, 1, wd_d q))] ++ wm k b2 I2 D2))) H := by rw [← lw_L]; exact hP
  have hD : va_D (fun q : Nat => s.heap.size ≤ q) ([] ++ (((ob, .inl (k 4, 1, .inr (.inl o))) :: wd k b P I D) ++ ([(od, .inl (k 1, 1, wd_d q))] ++ wm k b2 I2 D2))) := by rw [← lw_L]; exact hD
  refine sg_i (sw_runS (ws' := []) (n := 3) (As := [.ref (b 0), .int (xs (4 * t + 1)), .ref ob]) (rest := []) ⟨hx, hb, hml, hown, hts⟩ (hLa_forget l hln dC dI k b P I D _ ob o (xs (4 * t + 1)) np hP9.1 hP9.2.1 hP9.2.2.2.1) rfl rfl (Nat.le_of_ble_eq_true rfl) (Nat.le_of_ble_eq_true rfl) tw_514 tw_513 tw_0 tw_512 (by decide +kernel) ⟨ct_blind (ev := ev_L) ev_L.blind, ct_now (A := (fun q : Nat => s.heap.size ≤ q)) (ev := ev_L) (fun U hU hW9 => hE.to hW9 (st_law hS hU)) (sg_Pc hP) hK (sg_Dc hD)⟩ rfl rfl hl.1 rfl (lv_room (Nat.le_of_ble_eq_true rfl)) dlaw_588 ⟨hcc, hss⟩) hP hD hS (fun _ h => h) (fun r u H locs hc hP hD hS => ?_)
  have hP : va_P (dC, dI) vwCl (lw k b u.2.2 u.2.1 D b2 I2 D2 ob u.1 od q) H := by rw [lw_L]; exact hP
  have hD : va_D (fun q : Nat => s.heap.size ≤ q) (lw k b u.2.2 u.2.1 D b2 I2 D2 ob u.1 od q) := by rw [lw_L]; exact hD
  refine lv_istore (lv' := [(6, .int r), (5, .int (nI (4 * t))), (4, .ref od), (3, .ref ob), (2, .ref (b2 0)), (1, .ref (b 0)), (0, .ref sb)]) hx hb dlaw_591 hl (by decide) rfl (fun ls hl => ?_)
  refine lv_aload_n hx hb dlaw_593 rfl (lv_at hl 4 rfl) ?_
  refine lv_aload_n hx hb dlaw_594 rfl (lv_at hl 6 rfl) ?_
  refine lv_iload hx hb dlaw_595 (lv_at hl 1 rfl) ?_
  refine lv_iconst (v := nI 1) hx hb dlaw_597 (by decide +kernel) ?_
  refine lv_iadd hx hb dlaw_598 ?_
  refine rw_i (y := nI (4 * t + 1)) (nI_add _ _) ?_
  refine rw_sld (k := (4 * t + 1)) hx hb hX hbl (Nat.not_le.mpr hbl) hS (by omega) (by omega) dlaw_599 ?_
  have hP : va_P (dC, dI) vwCl (([(ob, .inl (k 4, 1, .inr (.inl u.1)))] ++ (wd k b u.2.2 u.2.1 D ++ [(od, .inl (k 1, 1, wd_d q))])) ++ (wm k b2 I2 D2 ++ [])) H := by rw [← lw_M]; exact hP
  have hD : va_D (fun q : Nat => s.heap.size ≤ q) (([(ob, .inl (k 4, 1, .inr (.inl u.1)))] ++ (wd k b u.2.2 u.2.1 D ++ [(od, .inl (k 1, 1, wd_d q))])) ++ (wm k b2 I2 D2 ++ [])) := by rw [← lw_M]; exact hD
  refine sg_i (va_runV (As := [.int (xs (4 * t + 1))]) (rest := []) ⟨hx, hb, hml, hown, hts⟩ (kMo_forget l dC dI k b2 I2 D2 _ (xs (4 * t + 1)) np hP9.1 hP9.2.2.1) (cwV 1 hts (gw_V tw_834 tw_835 tw_836 tw_9 tw_837) rfl rfl rfl (by decide +kernel) ⟨Nat.le_of_ble_eq_true rfl, Nat.le_of_ble_eq_true rfl⟩) ⟨ct_blind (ev := fun _ => True) (fun _ _ _ _ h => h), va_recv hK (sg_Pc hP) (ci := 8) (q0 := 0) rfl rfl, ct_now (A := (fun q : Nat => s.heap.size ≤ q)) (ev := fun _ => True) (fun _ _ _ => trivial) (sg_Pc hP) (hK.sub (tys' := mo_ty k) [0, 1] rfl) (sg_Dc hD)⟩ rfl rfl hl.1 rfl (lv_room (Nat.le_of_ble_eq_true rfl)) dlaw_600 ⟨hcc, hss⟩) hP hD hS (fun _ h => h) (fun r2 u2 H locs hm hP hD hS => ?_)
  have hP : va_P (dC, dI) vwCl (lw k b u.2.2 u.2.1 D b2 u2.1 u2.2 ob u.1 od q) H := by rw [lw_M]; exact hP
  have hD : va_D (fun q : Nat => s.heap.size ≤ q) (lw k b u.2.2 u.2.1 D b2 u2.1 u2.2 ob u.1 od q) := by rw [lw_M]; exact hD
  refine lv_istore (lv' := [(7, .int r2), (6, .int r), (5, .int (nI (4 * t))), (4, .ref od), (3, .ref ob), (2, .ref (b2 0)), (1, .ref (b 0)), (0, .ref sb)]) hx hb dlaw_603 hl (by decide) rfl (fun ls hl => ?_)
  refine lv_goto (tgt := 762) hx hb dlaw_605 (by decide) ?_
  have hag := ag_forget R (xs (4 * t + 1)) hc hm
  exact K _ _ _ _ _ _ _ _ _ _ hag.2.2 hP hD hS (lv_sub hl [2, 3, 4, 5, 6, 7] rfl)
set_option maxHeartbeats 4000000 in
set_option maxRecDepth 100000 in
theorem ar_warp {p : Program} {e : Env} {s : State} {m : MethodId} {below : List Frame} {meth : Method} {c : Code} {Q : State → Prop} (l : Launch) {sb L : Nat} {xs : Nat → Int32} (t : Nat) (hL4 : 4 * t + 4 ≤ L) (hLb : L ≤ 2048) {dC : Nat → ClassId} {dI : Nat → Nat → Nat} {k : Nat → ClassId} (CX : la_cx p l s m c sb L xs dC dI k) {b b2 : Nat → Nat} {P : Nat → Nat} {I I2 : Nat → Nat → Int32} {D D2 : Nat → Nat → UInt64} {ob od : Nat} {o : Nat → Int64} {q : Nat → UInt64} (RX : rx P I D I2 D2) {H : Heap} {locs : List Loc} {ls : Array Slot} {cells slots : Nat} (hcc : cells + 1 ≤ 601024) (hss : slots + 6 ≤ 7293034) (hP : va_P (dC, dI) vwCl (lw k b P I D b2 I2 D2 ob o od q) H) (hD : va_D (fun q : Nat => s.heap.size ≤ q) (lw k b P I D b2 I2 D2 ob o od q)) (hS : va_S (fun q : Nat => s.heap.size ≤ q) s.heap H locs) (hl : lv_has ls 9 [(5, .int (nI (4 * t))), (4, .ref od), (3, .ref ob), (2, .ref (b2 0)), (1, .ref (b 0)), (0, .ref sb)]) (K : ∀ (P : Nat → Nat) (I : Nat → Nat → Int32) (D : Nat → Nat → UInt64) (I2 : Nat → Nat → Int32) (D2 : Nat → Nat → UInt64) (o : Nat → Int64) (q : Nat → UInt64) (H : Heap) (locs : List Loc) (ls : Array Slot), rx P I D I2 D2 → va_P (dC, dI) vwCl (lw k b P I D b2 I2 D2 ob o od q) H → va_D (fun q : Nat => s.heap.size ≤ q) (lw k b P I D b2 I2 D2 ob o od q) → va_S (fun q : Nat => s.heap.size ≤ q) s.heap H locs → lv_has ls 9 [(5, .int (nI (4 * t))), (4, .ref od), (3, .ref ob), (2, .ref (b2 0)), (1, .ref (b 0)), (0, .ref sb)] → W p l e room_1 s m #[Value.ref sb] below meth c H locs (cells + 1) (slots + 6) Q (F0 m 762 ls [])) : W p l e room_1 s m #[Value.ref sb] below meth c H locs cells slots Q (F0 m 608 ls []) := by
  obtain ⟨hx, hb, hml, hown, hts, hX, hbl, hK, hE, hln⟩ := CX
  obtain ⟨n, oc, ns, gp, np, rw9, nw, jd9, R⟩ := RX
  obtain ⟨hF9, hS9, hM9, hP9, hW9, hJ9, hT9⟩ := id R
  have hs2 : ∀ i, i < ns → fb_ 1057 (D2 1 i) := fun i hi => by rw [hS9.2.2.2.2 i hi]; exact hS9.2.2.2.1 i hi
  have hr2 : ∀ j, j < np → I2 3 j = nI (rw9 j) ∧ 1 ≤ rw9 j ∧ rw9 j ≤ 8 := fun j hj => ⟨hP9.2.2.2.2.2.2.2.1 j hj, (hP9.2.2.2.2.2.2.1 j hj).2⟩
  have hl2 : ∀ j, j < np → ∀ q, q < 4 * rw9 j → fb_ 1155 (D2 2 (32 * j + q)) := fun j hj q hq => by rw [hP9.2.2.2.2.2.2.2.2.2 j hj q hq]; exact hP9.2.2.2.2.2.2.2.2.1 j hj q hq
  refine lv_aload_n hx hb dlaw_608 rfl (lv_at hl 4 rfl) ?_
  refine lv_aload_n hx hb dlaw_609 rfl (lv_at hl 5 rfl) ?_
  refine lv_iload hx hb dlaw_610 (lv_at hl 0 rfl) ?_
  refine lv_iconst (v := nI 1) hx hb dlaw_612 (by decide +kernel) ?_
  refine lv_iadd hx hb dlaw_613 ?_
  refine rw_i (y := nI (4 * t + 1)) (nI_add _ _) ?_
  refine rw_sld (k := (4 * t + 1)) hx hb hX hbl (Nat.not_le.mpr hbl) hS (by omega) (by omega) dlaw_614 ?_
  refine lv_aload_n hx hb dlaw_615 rfl (lv_at hl 5 rfl) ?_
  refine lv_iload hx hb dlaw_616 (lv_at hl 0 rfl) ?_
  refine lv_iconst (v := nI 2) hx hb dlaw_618 (by decide +kernel) ?_
  refine lv_iadd hx hb dlaw_619 ?_
  refine rw_i (y := nI (4 * t + 2)) (nI_add _ _) ?_
  refine rw_sld (k := (4 * t + 2)) hx hb hX hbl (Nat.not_le.mpr hbl) hS (by omega) (by omega) dlaw_620 ?_
  refine lv_aload hx hb dlaw_621 (lv_at hl 1 rfl) ?_
  have hP : va_P (dC, dI) vwCl ([(ob, .inl (k 4, 1, .inr (.inl o)))] ++ ((wd k b P I D ++ [(od, .inl (k 1, 1, wd_d q))]) ++ wm k b2 I2 D2)) H := by rw [← lw_D]; exact hP
  have hD : va_D (fun q : Nat => s.heap.size ≤ q) ([(ob, .inl (k 4, 1, .inr (.inl o)))] ++ ((wd k b P I D ++ [(od, .inl (k 1, 1, wd_d q))]) ++ wm k b2 I2 D2)) := by rw [← lw_D]; exact hD
  refine sg_i (sw_runS (ws' := []) (n := 4) (As := [.ref (b 0), .int (xs (4 * t + 1)), .int (xs (4 * t + 2)), .ref od]) (rest := []) ⟨hx, hb, hml, hown, hts⟩ (hLa_warp l hln dC dI k b P I D _ od q (xs (4 * t + 1)) (xs (4 * t + 2)) np rw9 hP9.1 hP9.2.1 hP9.2.2.2.1 hP9.2.2.2.2.2.2.1 hP9.2.2.2.2.2.2.2.2.1) rfl rfl (Nat.le_of_ble_eq_true rfl) (Nat.le_of_ble_eq_true rfl) tw_542 tw_541 tw_0 tw_540 (by decide +kernel) ⟨ct_blind (ev := ev_L) ev_L.blind, ct_now (A := (fun q : Nat => s.heap.size ≤ q)) (ev := ev_L) (fun U hU hW9 => hE.to hW9 (st_law hS hU)) (sg_Pc hP) hK (sg_Dc hD)⟩ rfl rfl hl.1 rfl (lv_room (Nat.le_of_ble_eq_true rfl)) dlaw_623 ⟨hcc, hss⟩) hP hD hS (fun _ h => h) (fun r u H locs hc hP hD hS => ?_)
  have hP : va_P (dC, dI) vwCl (lw k b P I (us D 8 u.2) b2 I2 D2 ob o od u.1) H := by rw [lw_D]; exact hP
  have hD : va_D (fun q : Nat => s.heap.size ≤ q) (lw k b P I (us D 8 u.2) b2 I2 D2 ob o od u.1) := by rw [lw_D]; exact hD
  refine lv_istore (lv' := [(6, .int r), (5, .int (nI (4 * t))), (4, .ref od), (3, .ref ob), (2, .ref (b2 0)), (1, .ref (b 0)), (0, .ref sb)]) hx hb dlaw_626 hl (by decide) rfl (fun ls hl => ?_)
  refine lv_aload_n hx hb dlaw_628 rfl (lv_at hl 4 rfl) ?_
  refine lv_aload_n hx hb dlaw_629 rfl (lv_at hl 6 rfl) ?_
  refine lv_iload hx hb dlaw_630 (lv_at hl 1 rfl) ?_
  refine lv_iconst (v := nI 1) hx hb dlaw_632 (by decide +kernel) ?_
  refine lv_iadd hx hb dlaw_633 ?_
  refine rw_i (y := nI (4 * t + 1)) (nI_add _ _) ?_
  refine rw_sld (k := (4 * t + 1)) hx hb hX hbl (Nat.not_le.mpr hbl) hS (by omega) (by omega) dlaw_634 ?_
  refine lv_aload_n hx hb dlaw_635 rfl (lv_at hl 6 rfl) ?_
  refine lv_iload hx hb dlaw_636 (lv_at hl 1 rfl) ?_
  refine lv_iconst (v := nI 2) hx hb dlaw_638 (by decide +kernel) ?_
  refine lv_iadd hx hb dlaw_639 ?_
  refine rw_i (y := nI (4 * t + 2)) (nI_add _ _) ?_
  refine rw_sld (k := (4 * t + 2)) hx hb hX hbl (Nat.not_le.mpr hbl) hS (by omega) (by omega) dlaw_640 ?_
  have hP : va_P (dC, dI) vwCl (([(ob, .inl (k 4, 1, .inr (.inl o)))] ++ (wd k b P I (us D 8 u.2) ++ [(od, .inl (k 1, 1, wd_d u.1))])) ++ (wm k b2 I2 D2 ++ [])) H := by rw [← lw_M]; exact hP
  have hD : va_D (fun q : Nat => s.heap.size ≤ q) (([(ob, .inl (k 4, 1, .inr (.inl o)))] ++ (wd k b P I (us D 8 u.2) ++ [(od, .inl (k 1, 1, wd_d u.1))])) ++ (wm k b2 I2 D2 ++ [])) := by rw [← lw_M]; exact hD
  refine sg_d (va_runV (As := [.int (xs (4 * t + 1)), .int (xs (4 * t + 2))]) (rest := []) ⟨hx, hb, hml, hown, hts⟩ (kMo_warp l dC dI k b2 I2 D2 _ (xs (4 * t + 1)) (xs (4 * t + 2)) np rw9 hP9.1 hP9.2.2.1 hr2 hl2) (cwV 2 hts (gw_V tw_838 tw_839 tw_840 tw_9 tw_841) rfl rfl rfl (by decide +kernel) ⟨Nat.le_of_ble_eq_true rfl, Nat.le_of_ble_eq_true rfl⟩) ⟨ct_blind (ev := fun _ => True) (fun _ _ _ _ h => h), va_recv hK (sg_Pc hP) (ci := 8) (q0 := 0) rfl rfl, ct_now (A := (fun q : Nat => s.heap.size ≤ q)) (ev := fun _ => True) (fun _ _ _ => trivial) (sg_Pc hP) (hK.sub (tys' := mo_ty k) [0, 1] rfl) (sg_Dc hD)⟩ rfl rfl hl.1 rfl (lv_room (Nat.le_of_ble_eq_true rfl)) dlaw_641 ⟨hcc, hss⟩) hP hD hS (fun _ h => h) (fun r2 u2 H locs hm hP hD hS => ?_)
  have hP : va_P (dC, dI) vwCl (lw k b P I (us D 8 u.2) b2 u2.1 u2.2 ob o od u.1) H := by rw [lw_M]; exact hP
  have hD : va_D (fun q : Nat => s.heap.size ≤ q) (lw k b P I (us D 8 u.2) b2 u2.1 u2.2 ob o od u.1) := by rw [lw_M]; exact hD
  refine lv_dstore (lv' := [(7, .double r2), (6, .int r), (5, .int (nI (4 * t))), (4, .ref od), (3, .ref ob), (2, .ref (b2 0)), (1, .ref (b 0)), (0, .ref sb)]) hx hb dlaw_644 hl (by decide) rfl (fun ls hl => ?_)
  refine lv_goto (tgt := 762) hx hb dlaw_646 (by decide) ?_
  have hag := ag_warp R (xs (4 * t + 1)) (xs (4 * t + 2)) hc hm
  exact K _ _ _ _ _ _ _ _ _ _ hag.2.2 hP hD hS (lv_sub hl [2, 3, 4, 5, 6, 7] rfl)
set_option maxHeartbeats 4000000 in
set_option maxRecDepth 100000 in
theorem ar_hear {p : Program} {e : Env} {s : State} {m : MethodId} {below : List Frame} {meth : Method} {c : Code} {Q : State → Prop} (l : Launch) {sb L : Nat} {xs : Nat → Int32} (t : Nat) (hL4 : 4 * t + 4 ≤ L) (hLb : L ≤ 2048) {dC : Nat → ClassId} {dI : Nat → Nat → Nat} {k : Nat → ClassId} (CX : la_cx p l s m c sb L xs dC dI k) {b b2 : Nat → Nat} {P : Nat → Nat} {I I2 : Nat → Nat → Int32} {D D2 : Nat → Nat → UInt64} {ob od : Nat} {o : Nat → Int64} {q : Nat → UInt64} (RX : rx P I D I2 D2) {H : Heap} {locs : List Loc} {ls : Array Slot} {cells slots : Nat} (hcc : cells + 1 ≤ 601024) (hss : slots + 6 ≤ 7293034) (hP : va_P (dC, dI) vwCl (lw k b P I D b2 I2 D2 ob o od q) H) (hD : va_D (fun q : Nat => s.heap.size ≤ q) (lw k b P I D b2 I2 D2 ob o od q)) (hS : va_S (fun q : Nat => s.heap.size ≤ q) s.heap H locs) (hl : lv_has ls 9 [(5, .int (nI (4 * t))), (4, .ref od), (3, .ref ob), (2, .ref (b2 0)), (1, .ref (b 0)), (0, .ref sb)]) (K : ∀ (P : Nat → Nat) (I : Nat → Nat → Int32) (D : Nat → Nat → UInt64) (I2 : Nat → Nat → Int32) (D2 : Nat → Nat → UInt64) (o : Nat → Int64) (q : Nat → UInt64) (H : Heap) (locs : List Loc) (ls : Array Slot), rx P I D I2 D2 → va_P (dC, dI) vwCl (lw k b P I D b2 I2 D2 ob o od q) H → va_D (fun q : Nat => s.heap.size ≤ q) (lw k b P I D b2 I2 D2 ob o od q) → va_S (fun q : Nat => s.heap.size ≤ q) s.heap H locs → lv_has ls 9 [(5, .int (nI (4 * t))), (4, .ref od), (3, .ref ob), (2, .ref (b2 0)), (1, .ref (b 0)), (0, .ref sb)] → W p l e room_1 s m #[Value.ref sb] below meth c H locs (cells + 1) (slots + 6) Q (F0 m 762 ls [])) : W p l e room_1 s m #[Value.ref sb] below meth c H locs cells slots Q (F0 m 649 ls []) := by
  obtain ⟨hx, hb, hml, hown, hts, hX, hbl, hK, hE, hln⟩ := CX
  obtain ⟨n, oc, ns, gp, np, rw9, nw, jd9, R⟩ := RX
  obtain ⟨hF9, hS9, hM9, hP9, hW9, hJ9, hT9⟩ := id R
  have hs2 : ∀ i, i < ns → fb_ 1057 (D2 1 i) := fun i hi => by rw [hS9.2.2.2.2 i hi]; exact hS9.2.2.2.1 i hi
  have hr2 : ∀ j, j < np → I2 3 j = nI (rw9 j) ∧ 1 ≤ rw9 j ∧ rw9 j ≤ 8 := fun j hj => ⟨hP9.2.2.2.2.2.2.2.1 j hj, (hP9.2.2.2.2.2.2.1 j hj).2⟩
  have hl2 : ∀ j, j < np → ∀ q, q < 4 * rw9 j → fb_ 1155 (D2 2 (32 * j + q)) := fun j hj q hq => by rw [hP9.2.2.2.2.2.2.2.2.2 j hj q hq]; exact hP9.2.2.2.2.2.2.2.2.1 j hj q hq
  refine lv_aload_n hx hb dlaw_649 rfl (lv_at hl 4 rfl) ?_
  refine lv_aload_n hx hb dlaw_650 rfl (lv_at hl 2 rfl) ?_
  have hP : va_P (dC, dI) vwCl ([] ++ (((ob, .inl (k 4, 1, .inr (.inl o))) :: wd k b P I D) ++ ([(od, .inl (k 1, 1, wd_d q))] ++ wm k b2 I2 D2))) H := by rw [← lw_L]; exact hP
  have hD : va_D (fun q : Nat => s.heap.size ≤ q) ([] ++ (((ob, .inl (k 4, 1, .inr (.inl o))) :: wd k b P I D) ++ ([(od, .inl (k 1, 1, wd_d q))] ++ wm k b2 I2 D2))) := by rw [← lw_L]; exact hD
  refine sg_i (sw_runS (ws' := []) (n := 2) (As := [.ref (b 0), .ref ob]) (rest := []) ⟨hx, hb, hml, hown, hts⟩ (hLa_hear l hln dC dI k b P I D _ ob o ns hS9.1 hS9.2.1 hS9.2.2.2.1 hT9.1 hT9.2.1 hT9.2.2.1 jd9 hJ9.1 hJ9.2.1 hJ9.2.2.1 hJ9.2.2.2 np rw9 hP9.1 hP9.2.1 hP9.2.2.2.1 hP9.2.2.2.2.2.2.1 hP9.2.2.2.2.2.2.2.2.1 gp hM9.2.2.1 hM9.2.2.2.1 hM9.2.2.2.2.1) rfl rfl (Nat.le_of_ble_eq_true rfl) (Nat.le_of_ble_eq_true rfl) tw_563 tw_562 tw_0 tw_561 (by decide +kernel) ⟨ct_blind (ev := ev_L) ev_L.blind, ct_now (A := (fun q : Nat => s.heap.size ≤ q)) (ev := ev_L) (fun U hU hW9 => hE.to hW9 (st_law hS hU)) (sg_Pc hP) hK (sg_Dc hD)⟩ rfl rfl hl.1 rfl (lv_room (Nat.le_of_ble_eq_true rfl)) dlaw_651 ⟨hcc, hss⟩) hP hD hS (fun _ h => h) (fun r u H locs hc hP hD hS => ?_)
  have hP : va_P (dC, dI) vwCl (lw k b P u.2.1 u.2.2 b2 I2 D2 ob u.1 od q) H := by rw [lw_L]; exact hP
  have hD : va_D (fun q : Nat => s.heap.size ≤ q) (lw k b P u.2.1 u.2.2 b2 I2 D2 ob u.1 od q) := by rw [lw_L]; exact hD
  refine lv_istore (lv' := [(6, .int r), (5, .int (nI (4 * t))), (4, .ref od), (3, .ref ob), (2, .ref (b2 0)), (1, .ref (b 0)), (0, .ref sb)]) hx hb dlaw_654 hl (by decide) rfl (fun ls hl => ?_)
  refine lv_aload_n hx hb dlaw_656 rfl (lv_at hl 4 rfl) ?_
  have hP : va_P (dC, dI) vwCl (([(ob, .inl (k 4, 1, .inr (.inl u.1)))] ++ (wd k b P u.2.1 u.2.2 ++ [(od, .inl (k 1, 1, wd_d q))])) ++ (wm k b2 I2 D2 ++ [])) H := by rw [← lw_M]; exact hP
  have hD : va_D (fun q : Nat => s.heap.size ≤ q) (([(ob, .inl (k 4, 1, .inr (.inl u.1)))] ++ (wd k b P u.2.1 u.2.2 ++ [(od, .inl (k 1, 1, wd_d q))])) ++ (wm k b2 I2 D2 ++ [])) := by rw [← lw_M]; exact hD
  refine sg_i (va_runV (As := []) (rest := []) ⟨hx, hb, hml, hown, hts⟩ (kMo_hear l dC dI k b2 I2 D2 _ ns hS9.1 hS9.2.2.1 hs2 hT9.2.2.2.1 hT9.2.2.2.2 np rw9 hP9.1 hP9.2.2.1 hr2 hl2 gp hM9.2.2.1 hM9.2.2.2.1 hM9.2.2.2.2.2.1) (cwV 0 hts (gw_V tw_850 tw_851 tw_852 tw_9 tw_853) rfl rfl rfl (by decide +kernel) ⟨Nat.le_of_ble_eq_true rfl, Nat.le_of_ble_eq_true rfl⟩) ⟨ct_blind (ev := fun _ => True) (fun _ _ _ _ h => h), va_recv hK (sg_Pc hP) (ci := 8) (q0 := 0) rfl rfl, ct_now (A := (fun q : Nat => s.heap.size ≤ q)) (ev := fun _ => True) (fun _ _ _ => trivial) (sg_Pc hP) (hK.sub (tys' := mo_ty k) [0, 1] rfl) (sg_Dc hD)⟩ rfl rfl hl.1 rfl (lv_room (Nat.le_of_ble_eq_true rfl)) dlaw_657 ⟨hcc, hss⟩) hP hD hS (fun _ h => h) (fun r2 u2 H locs hm hP hD hS => ?_)
  have hP : va_P (dC, dI) vwCl (lw k b P u.2.1 u.2.2 b2 u2.1 u2.2 ob u.1 od q) H := by rw [lw_M]; exact hP
  have hD : va_D (fun q : Nat => s.heap.size ≤ q) (lw k b P u.2.1 u.2.2 b2 u2.1 u2.2 ob u.1 od q) := by rw [lw_M]; exact hD
  refine lv_istore (lv' := [(7, .int r2), (6, .int r), (5, .int (nI (4 * t))), (4, .ref od), (3, .ref ob), (2, .ref (b2 0)), (1, .ref (b 0)), (0, .ref sb)]) hx hb dlaw_660 hl (by decide) rfl (fun ls hl => ?_)
  refine lv_goto (tgt := 762) hx hb dlaw_662 (by decide) ?_
  have hag := ag_hear R  hc hm
  exact K _ _ _ _ _ _ _ _ _ _ hag.2.2 hP hD hS (lv_sub hl [2, 3, 4, 5, 6, 7] rfl)
set_option maxHeartbeats 4000000 in
set_option maxRecDepth 100000 in
theorem ar_word {p : Program} {e : Env} {s : State} {m : MethodId} {below : List Frame} {meth : Method} {c : Code} {Q : State → Prop} (l : Launch) {sb L : Nat} {xs : Nat → Int32} (t : Nat) (hL4 : 4 * t + 4 ≤ L) (hLb : L ≤ 2048) {dC : Nat → ClassId} {dI : Nat → Nat → Nat} {k : Nat → ClassId} (CX : la_cx p l s m c sb L xs dC dI k) {b b2 : Nat → Nat} {P : Nat → Nat} {I I2 : Nat → Nat → Int32} {D D2 : Nat → Nat → UInt64} {ob od : Nat} {o : Nat → Int64} {q : Nat → UInt64} (RX : rx P I D I2 D2) {H : Heap} {locs : List Loc} {ls : Array Slot} {cells slots : Nat} (hcc : cells + 1 ≤ 601024) (hss : slots + 6 ≤ 7293034) (hP : va_P (dC, dI) vwCl (lw k b P I D b2 I2 D2 ob o od q) H) (hD : va_D (fun q : Nat => s.heap.size ≤ q) (lw k b P I D b2 I2 D2 ob o od q)) (hS : va_S (fun q : Nat => s.heap.size ≤ q) s.heap H locs) (hl : lv_has ls 9 [(5, .int (nI (4 * t))), (4, .ref od), (3, .ref ob), (2, .ref (b2 0)), (1, .ref (b 0)), (0, .ref sb)]) (K : ∀ (P : Nat → Nat) (I : Nat → Nat → Int32) (D : Nat → Nat → UInt64) (I2 : Nat → Nat → Int32) (D2 : Nat → Nat → UInt64) (o : Nat → Int64) (q : Nat → UInt64) (H : Heap) (locs : List Loc) (ls : Array Slot), rx P I D I2 D2 → va_P (dC, dI) vwCl (lw k b P I D b2 I2 D2 ob o od q) H → va_D (fun q : Nat => s.heap.size ≤ q) (lw k b P I D b2 I2 D2 ob o od q) → va_S (fun q : Nat => s.heap.size ≤ q) s.heap H locs → lv_has ls 9 [(5, .int (nI (4 * t))), (4, .ref od), (3, .ref ob), (2, .ref (b2 0)), (1, .ref (b 0)), (0, .ref sb)] → W p l e room_1 s m #[Value.ref sb] below meth c H locs (cells + 1) (slots + 6) Q (F0 m 762 ls [])) : W p l e room_1 s m #[Value.ref sb] below meth c H locs cells slots Q (F0 m 665 ls []) := by
  obtain ⟨hx, hb, hml, hown, hts, hX, hbl, hK, hE, hln⟩ := CX
  obtain ⟨n, oc, ns, gp, np, rw9, nw, jd9, R⟩ := RX
  obtain ⟨hF9, hS9, hM9, hP9, hW9, hJ9, hT9⟩ := id R
  have hs2 : ∀ i, i < ns → fb_ 1057 (D2 1 i) := fun i hi => by rw [hS9.2.2.2.2 i hi]; exact hS9.2.2.2.1 i hi
  have hr2 : ∀ j, j < np → I2 3 j = nI (rw9 j) ∧ 1 ≤ rw9 j ∧ rw9 j ≤ 8 := fun j hj => ⟨hP9.2.2.2.2.2.2.2.1 j hj, (hP9.2.2.2.2.2.2.1 j hj).2⟩
  have hl2 : ∀ j, j < np → ∀ q, q < 4 * rw9 j → fb_ 1155 (D2 2 (32 * j + q)) := fun j hj q hq => by rw [hP9.2.2.2.2.2.2.2.2.2 j hj q hq]; exact hP9.2.2.2.2.2.2.2.2.1 j hj q hq
  refine lv_aload_n hx hb dlaw_665 rfl (lv_at hl 4 rfl) ?_
  refine lv_aload_n hx hb dlaw_666 rfl (lv_at hl 5 rfl) ?_
  refine lv_iload hx hb dlaw_667 (lv_at hl 0 rfl) ?_
  refine lv_iconst (v := nI 1) hx hb dlaw_669 (by decide +kernel) ?_
  refine lv_iadd hx hb dlaw_670 ?_
  refine rw_i (y := nI (4 * t + 1)) (nI_add _ _) ?_
  refine rw_sld (k := (4 * t + 1)) hx hb hX hbl (Nat.not_le.mpr hbl) hS (by omega) (by omega) dlaw_671 ?_
  refine lv_aload_n hx hb dlaw_672 rfl (lv_at hl 5 rfl) ?_
  refine lv_iload hx hb dlaw_673 (lv_at hl 0 rfl) ?_
  refine lv_iconst (v := nI 2) hx hb dlaw_675 (by decide +kernel) ?_
  refine lv_iadd hx hb dlaw_676 ?_
  refine rw_i (y := nI (4 * t + 2)) (nI_add _ _) ?_
  refine rw_sld (k := (4 * t + 2)) hx hb hX hbl (Nat.not_le.mpr hbl) hS (by omega) (by omega) dlaw_677 ?_
  refine lv_aload_n hx hb dlaw_678 rfl (lv_at hl 2 rfl) ?_
  have hP : va_P (dC, dI) vwCl ([] ++ (((ob, .inl (k 4, 1, .inr (.inl o))) :: wd k b P I D) ++ ([(od, .inl (k 1, 1, wd_d q))] ++ wm k b2 I2 D2))) H := by rw [← lw_L]; exact hP
  have hD : va_D (fun q : Nat => s.heap.size ≤ q) ([] ++ (((ob, .inl (k 4, 1, .inr (.inl o))) :: wd k b P I D) ++ ([(od, .inl (k 1, 1, wd_d q))] ++ wm k b2 I2 D2))) := by rw [← lw_L]; exact hD
  refine sg_i (sw_runS (ws' := []) (n := 4) (As := [.ref (b 0), .int (xs (4 * t + 1)), .int (xs (4 * t + 2)), .ref ob]) (rest := []) ⟨hx, hb, hml, hown, hts⟩ (hLa_word l hln dC dI k b P I D _ ob o (xs (4 * t + 1)) (xs (4 * t + 2)) nw hW9.1 hW9.2.1 hM9.2.1) rfl rfl (Nat.le_of_ble_eq_true rfl) (Nat.le_of_ble_eq_true rfl) tw_606 tw_605 tw_0 tw_604 (by decide +kernel) ⟨ct_blind (ev := ev_L) ev_L.blind, ct_now (A := (fun q : Nat => s.heap.size ≤ q)) (ev := ev_L) (fun U hU hW9 => hE.to hW9 (st_law hS hU)) (sg_Pc hP) hK (sg_Dc hD)⟩ rfl rfl hl.1 rfl (lv_room (Nat.le_of_ble_eq_true rfl)) dlaw_679 ⟨hcc, hss⟩) hP hD hS (fun _ h => h) (fun r u H locs hc hP hD hS => ?_)
  have hP : va_P (dC, dI) vwCl (lw k b P u.2 D b2 I2 D2 ob u.1 od q) H := by rw [lw_L]; exact hP
  have hD : va_D (fun q : Nat => s.heap.size ≤ q) (lw k b P u.2 D b2 I2 D2 ob u.1 od q) := by rw [lw_L]; exact hD
  refine lv_istore (lv' := [(6, .int r), (5, .int (nI (4 * t))), (4, .ref od), (3, .ref ob), (2, .ref (b2 0)), (1, .ref (b 0)), (0, .ref sb)]) hx hb dlaw_682 hl (by decide) rfl (fun ls hl => ?_)
  refine lv_aload_n hx hb dlaw_684 rfl (lv_at hl 4 rfl) ?_
  refine lv_aload_n hx hb dlaw_685 rfl (lv_at hl 6 rfl) ?_
  refine lv_iload hx hb dlaw_686 (lv_at hl 1 rfl) ?_
  refine lv_iconst (v := nI 1) hx hb dlaw_688 (by decide +kernel) ?_
  refine lv_iadd hx hb dlaw_689 ?_
  refine rw_i (y := nI (4 * t + 1)) (nI_add _ _) ?_
  refine rw_sld (k := (4 * t + 1)) hx hb hX hbl (Nat.not_le.mpr hbl) hS (by omega) (by omega) dlaw_690 ?_
  refine lv_aload_n hx hb dlaw_691 rfl (lv_at hl 6 rfl) ?_
  refine lv_iload hx hb dlaw_692 (lv_at hl 1 rfl) ?_
  refine lv_iconst (v := nI 2) hx hb dlaw_694 (by decide +kernel) ?_
  refine lv_iadd hx hb dlaw_695 ?_
  refine rw_i (y := nI (4 * t + 2)) (nI_add _ _) ?_
  refine rw_sld (k := (4 * t + 2)) hx hb hX hbl (Nat.not_le.mpr hbl) hS (by omega) (by omega) dlaw_696 ?_
  have hP : va_P (dC, dI) vwCl (([(ob, .inl (k 4, 1, .inr (.inl u.1)))] ++ (wd k b P u.2 D ++ [(od, .inl (k 1, 1, wd_d q))])) ++ (wm k b2 I2 D2 ++ [])) H := by rw [← lw_M]; exact hP
  have hD : va_D (fun q : Nat => s.heap.size ≤ q) (([(ob, .inl (k 4, 1, .inr (.inl u.1)))] ++ (wd k b P u.2 D ++ [(od, .inl (k 1, 1, wd_d q))])) ++ (wm k b2 I2 D2 ++ [])) := by rw [← lw_M]; exact hD
  refine sg_i (va_runV (As := [.int (xs (4 * t + 1)), .int (xs (4 * t + 2))]) (rest := []) ⟨hx, hb, hml, hown, hts⟩ (kMo_word l dC dI k b2 I2 D2 _ (xs (4 * t + 1)) (xs (4 * t + 2)) nw (Nat.le_trans hW9.1 (by decide)) hW9.2.2.1 (by rw [hM9.1]; exact hM9.2.1)) (cwV 2 hts (gw_V tw_862 tw_863 tw_864 tw_9 tw_865) rfl rfl rfl (by decide +kernel) ⟨Nat.le_of_ble_eq_true rfl, Nat.le_of_ble_eq_true rfl⟩) ⟨ct_blind (ev := fun _ => True) (fun _ _ _ _ h => h), va_recv hK (sg_Pc hP) (ci := 8) (q0 := 0) rfl rfl, ct_now (A := (fun q : Nat => s.heap.size ≤ q)) (ev := fun _ => True) (fun _ _ _ => trivial) (sg_Pc hP) (hK.sub (tys' := mo_ty k) [0, 1] rfl) (sg_Dc hD)⟩ rfl rfl hl.1 rfl (lv_room (Nat.le_of_ble_eq_true rfl)) dlaw_697 ⟨hcc, hss⟩) hP hD hS (fun _ h => h) (fun r2 u2 H locs hm hP hD hS => ?_)
  have hP : va_P (dC, dI) vwCl (lw k b P u.2 D b2 u2 D2 ob u.1 od q) H := by rw [lw_M]; exact hP
  have hD : va_D (fun q : Nat => s.heap.size ≤ q) (lw k b P u.2 D b2 u2 D2 ob u.1 od q) := by rw [lw_M]; exact hD
  refine lv_istore (lv' := [(7, .int r2), (6, .int r), (5, .int (nI (4 * t))), (4, .ref od), (3, .ref ob), (2, .ref (b2 0)), (1, .ref (b 0)), (0, .ref sb)]) hx hb dlaw_700 hl (by decide) rfl (fun ls hl => ?_)
  refine lv_goto (tgt := 762) hx hb dlaw_702 (by decide) ?_
  have hag := ag_word R (xs (4 * t + 1)) (xs (4 * t + 2)) hc hm
  exact K _ _ _ _ _ _ _ _ _ _ hag.2.2 hP hD hS (lv_sub hl [2, 3, 4, 5, 6, 7] rfl)
set_option maxHeartbeats 4000000 in
set_option maxRecDepth 100000 in
theorem ar_cost {p : Program} {e : Env} {s : State} {m : MethodId} {below : List Frame} {meth : Method} {c : Code} {Q : State → Prop} (l : Launch) {sb L : Nat} {xs : Nat → Int32} (t : Nat) (hL4 : 4 * t + 4 ≤ L) (hLb : L ≤ 2048) {dC : Nat → ClassId} {dI : Nat → Nat → Nat} {k : Nat → ClassId} (CX : la_cx p l s m c sb L xs dC dI k) {b b2 : Nat → Nat} {P : Nat → Nat} {I I2 : Nat → Nat → Int32} {D D2 : Nat → Nat → UInt64} {ob od : Nat} {o : Nat → Int64} {q : Nat → UInt64} (RX : rx P I D I2 D2) {H : Heap} {locs : List Loc} {ls : Array Slot} {cells slots : Nat} (hcc : cells + 1 ≤ 601024) (hss : slots + 6 ≤ 7293034) (hP : va_P (dC, dI) vwCl (lw k b P I D b2 I2 D2 ob o od q) H) (hD : va_D (fun q : Nat => s.heap.size ≤ q) (lw k b P I D b2 I2 D2 ob o od q)) (hS : va_S (fun q : Nat => s.heap.size ≤ q) s.heap H locs) (hl : lv_has ls 9 [(5, .int (nI (4 * t))), (4, .ref od), (3, .ref ob), (2, .ref (b2 0)), (1, .ref (b 0)), (0, .ref sb)]) (K : ∀ (P : Nat → Nat) (I : Nat → Nat → Int32) (D : Nat → Nat → UInt64) (I2 : Nat → Nat → Int32) (D2 : Nat → Nat → UInt64) (o : Nat → Int64) (q : Nat → UInt64) (H : Heap) (locs : List Loc) (ls : Array Slot), rx P I D I2 D2 → va_P (dC, dI) vwCl (lw k b P I D b2 I2 D2 ob o od q) H → va_D (fun q : Nat => s.heap.size ≤ q) (lw k b P I D b2 I2 D2 ob o od q) → va_S (fun q : Nat => s.heap.size ≤ q) s.heap H locs → lv_has ls 9 [(5, .int (nI (4 * t))), (4, .ref od), (3, .ref ob), (2, .ref (b2 0)), (1, .ref (b 0)), (0, .ref sb)] → W p l e room_1 s m #[Value.ref sb] below meth c H locs (cells + 1) (slots + 6) Q (F0 m 762 ls [])) : W p l e room_1 s m #[Value.ref sb] below meth c H locs cells slots Q (F0 m 705 ls []) := by
  obtain ⟨hx, hb, hml, hown, hts, hX, hbl, hK, hE, hln⟩ := CX
  obtain ⟨n, oc, ns, gp, np, rw9, nw, jd9, R⟩ := RX
  obtain ⟨hF9, hS9, hM9, hP9, hW9, hJ9, hT9⟩ := id R
  have hs2 : ∀ i, i < ns → fb_ 1057 (D2 1 i) := fun i hi => by rw [hS9.2.2.2.2 i hi]; exact hS9.2.2.2.1 i hi
  have hr2 : ∀ j, j < np → I2 3 j = nI (rw9 j) ∧ 1 ≤ rw9 j ∧ rw9 j ≤ 8 := fun j hj => ⟨hP9.2.2.2.2.2.2.2.1 j hj, (hP9.2.2.2.2.2.2.1 j hj).2⟩
  have hl2 : ∀ j, j < np → ∀ q, q < 4 * rw9 j → fb_ 1155 (D2 2 (32 * j + q)) := fun j hj q hq => by rw [hP9.2.2.2.2.2.2.2.2.2 j hj q hq]; exact hP9.2.2.2.2.2.2.2.2.1 j hj q hq
  refine lv_aload_n hx hb dlaw_705 rfl (lv_at hl 4 rfl) ?_
  refine lv_aload_n hx hb dlaw_706 rfl (lv_at hl 5 rfl) ?_
  refine lv_iload hx hb dlaw_707 (lv_at hl 0 rfl) ?_
  refine lv_iconst (v := nI 1) hx hb dlaw_709 (by decide +kernel) ?_
  refine lv_iadd hx hb dlaw_710 ?_
  refine rw_i (y := nI (4 * t + 1)) (nI_add _ _) ?_
  refine rw_sld (k := (4 * t + 1)) hx hb hX hbl (Nat.not_le.mpr hbl) hS (by omega) (by omega) dlaw_711 ?_
  refine lv_aload hx hb dlaw_712 (lv_at hl 1 rfl) ?_
  have hP : va_P (dC, dI) vwCl ([(ob, .inl (k 4, 1, .inr (.inl o)))] ++ ((wd k b P I D ++ [(od, .inl (k 1, 1, wd_d q))]) ++ wm k b2 I2 D2)) H := by rw [← lw_D]; exact hP
  have hD : va_D (fun q : Nat => s.heap.size ≤ q) ([(ob, .inl (k 4, 1, .inr (.inl o)))] ++ ((wd k b P I D ++ [(od, .inl (k 1, 1, wd_d q))]) ++ wm k b2 I2 D2)) := by rw [← lw_D]; exact hD
  refine sg_i (sw_runS (ws' := []) (n := 3) (As := [.ref (b 0), .int (xs (4 * t + 1)), .ref od]) (rest := []) ⟨hx, hb, hml, hown, hts⟩ (hLa_cost l hln dC dI k b P I D _ od q (xs (4 * t + 1)) nw hW9.1 hW9.2.1) rfl rfl (Nat.le_of_ble_eq_true rfl) (Nat.le_of_ble_eq_true rfl) tw_619 tw_618 tw_0 tw_617 (by decide +kernel) ⟨ct_blind (ev := ev_L) ev_L.blind, ct_now (A := (fun q : Nat => s.heap.size ≤ q)) (ev := ev_L) (fun U hU hW9 => hE.to hW9 (st_law hS hU)) (sg_Pc hP) hK (sg_Dc hD)⟩ rfl rfl hl.1 rfl (lv_room (Nat.le_of_ble_eq_true rfl)) dlaw_714 ⟨hcc, hss⟩) hP hD hS (fun _ h => h) (fun r u H locs hc hP hD hS => ?_)
  have hP : va_P (dC, dI) vwCl (lw k b P u.2 D b2 I2 D2 ob o od u.1) H := by rw [lw_D]; exact hP
  have hD : va_D (fun q : Nat => s.heap.size ≤ q) (lw k b P u.2 D b2 I2 D2 ob o od u.1) := by rw [lw_D]; exact hD
  refine lv_istore (lv' := [(6, .int r), (5, .int (nI (4 * t))), (4, .ref od), (3, .ref ob), (2, .ref (b2 0)), (1, .ref (b 0)), (0, .ref sb)]) hx hb dlaw_717 hl (by decide) rfl (fun ls hl => ?_)
  refine lv_aload_n hx hb dlaw_719 rfl (lv_at hl 4 rfl) ?_
  refine lv_aload_n hx hb dlaw_720 rfl (lv_at hl 6 rfl) ?_
  refine lv_iload hx hb dlaw_721 (lv_at hl 1 rfl) ?_
  refine lv_iconst (v := nI 1) hx hb dlaw_723 (by decide +kernel) ?_
  refine lv_iadd hx hb dlaw_724 ?_
  refine rw_i (y := nI (4 * t + 1)) (nI_add _ _) ?_
  refine rw_sld (k := (4 * t + 1)) hx hb hX hbl (Nat.not_le.mpr hbl) hS (by omega) (by omega) dlaw_725 ?_
  have hP : va_P (dC, dI) vwCl (([(ob, .inl (k 4, 1, .inr (.inl o)))] ++ (wd k b P u.2 D ++ [(od, .inl (k 1, 1, wd_d u.1))])) ++ (wm k b2 I2 D2 ++ [])) H := by rw [← lw_M]; exact hP
  have hD : va_D (fun q : Nat => s.heap.size ≤ q) (([(ob, .inl (k 4, 1, .inr (.inl o)))] ++ (wd k b P u.2 D ++ [(od, .inl (k 1, 1, wd_d u.1))])) ++ (wm k b2 I2 D2 ++ [])) := by rw [← lw_M]; exact hD
  refine sg_d (va_runV (As := [.int (xs (4 * t + 1))]) (rest := []) ⟨hx, hb, hml, hown, hts⟩ (kMo_cost l dC dI k b2 I2 D2 _ (xs (4 * t + 1)) nw (Nat.le_trans hW9.1 (by decide)) hW9.2.2.1) (cwV 1 hts (gw_V tw_867 tw_868 tw_869 tw_9 tw_870) rfl rfl rfl (by decide +kernel) ⟨Nat.le_of_ble_eq_true rfl, Nat.le_of_ble_eq_true rfl⟩) ⟨ct_blind (ev := fun _ => True) (fun _ _ _ _ h => h), va_recv hK (sg_Pc hP) (ci := 8) (q0 := 0) rfl rfl, ct_now (A := (fun q : Nat => s.heap.size ≤ q)) (ev := fun _ => True) (fun _ _ _ => trivial) (sg_Pc hP) (hK.sub (tys' := mo_ty k) [0, 1] rfl) (sg_Dc hD)⟩ rfl rfl hl.1 rfl (lv_room (Nat.le_of_ble_eq_true rfl)) dlaw_726 ⟨hcc, hss⟩) hP hD hS (fun _ h => h) (fun r2 u2 H locs hm hP hD hS => ?_)
  have hP : va_P (dC, dI) vwCl (lw k b P u.2 D b2 u2 D2 ob o od u.1) H := by rw [lw_M]; exact hP
  have hD : va_D (fun q : Nat => s.heap.size ≤ q) (lw k b P u.2 D b2 u2 D2 ob o od u.1) := by rw [lw_M]; exact hD
  refine lv_dstore (lv' := [(7, .double r2), (6, .int r), (5, .int (nI (4 * t))), (4, .ref od), (3, .ref ob), (2, .ref (b2 0)), (1, .ref (b 0)), (0, .ref sb)]) hx hb dlaw_729 hl (by decide) rfl (fun ls hl => ?_)
  refine lv_goto (tgt := 762) hx hb dlaw_731 (by decide) ?_
  have hag := ag_cost R (xs (4 * t + 1)) hc hm
  exact K _ _ _ _ _ _ _ _ _ _ hag.2.2 hP hD hS (lv_sub hl [2, 3, 4, 5, 6, 7] rfl)
set_option maxHeartbeats 4000000 in
set_option maxRecDepth 100000 in
theorem ar_count {p : Program} {e : Env} {s : State} {m : MethodId} {below : List Frame} {meth : Method} {c : Code} {Q : State → Prop} (l : Launch) {sb L : Nat} {xs : Nat → Int32} (t : Nat) (hL4 : 4 * t + 4 ≤ L) (hLb : L ≤ 2048) {dC : Nat → ClassId} {dI : Nat → Nat → Nat} {k : Nat → ClassId} (CX : la_cx p l s m c sb L xs dC dI k) {b b2 : Nat → Nat} {P : Nat → Nat} {I I2 : Nat → Nat → Int32} {D D2 : Nat → Nat → UInt64} {ob od : Nat} {o : Nat → Int64} {q : Nat → UInt64} (RX : rx P I D I2 D2) {H : Heap} {locs : List Loc} {ls : Array Slot} {cells slots : Nat} (hcc : cells + 1 ≤ 601024) (hss : slots + 6 ≤ 7293034) (hP : va_P (dC, dI) vwCl (lw k b P I D b2 I2 D2 ob o od q) H) (hD : va_D (fun q : Nat => s.heap.size ≤ q) (lw k b P I D b2 I2 D2 ob o od q)) (hS : va_S (fun q : Nat => s.heap.size ≤ q) s.heap H locs) (hl : lv_has ls 9 [(5, .int (nI (4 * t))), (4, .ref od), (3, .ref ob), (2, .ref (b2 0)), (1, .ref (b 0)), (0, .ref sb)]) (K : ∀ (P : Nat → Nat) (I : Nat → Nat → Int32) (D : Nat → Nat → UInt64) (I2 : Nat → Nat → Int32) (D2 : Nat → Nat → UInt64) (o : Nat → Int64) (q : Nat → UInt64) (H : Heap) (locs : List Loc) (ls : Array Slot), rx P I D I2 D2 → va_P (dC, dI) vwCl (lw k b P I D b2 I2 D2 ob o od q) H → va_D (fun q : Nat => s.heap.size ≤ q) (lw k b P I D b2 I2 D2 ob o od q) → va_S (fun q : Nat => s.heap.size ≤ q) s.heap H locs → lv_has ls 9 [(5, .int (nI (4 * t))), (4, .ref od), (3, .ref ob), (2, .ref (b2 0)), (1, .ref (b 0)), (0, .ref sb)] → W p l e room_1 s m #[Value.ref sb] below meth c H locs (cells + 1) (slots + 6) Q (F0 m 762 ls [])) : W p l e room_1 s m #[Value.ref sb] below meth c H locs cells slots Q (F0 m 734 ls []) := by
  obtain ⟨hx, hb, hml, hown, hts, hX, hbl, hK, hE, hln⟩ := CX
  obtain ⟨n, oc, ns, gp, np, rw9, nw, jd9, R⟩ := RX
  obtain ⟨hF9, hS9, hM9, hP9, hW9, hJ9, hT9⟩ := id R
  have hs2 : ∀ i, i < ns → fb_ 1057 (D2 1 i) := fun i hi => by rw [hS9.2.2.2.2 i hi]; exact hS9.2.2.2.1 i hi
  have hr2 : ∀ j, j < np → I2 3 j = nI (rw9 j) ∧ 1 ≤ rw9 j ∧ rw9 j ≤ 8 := fun j hj => ⟨hP9.2.2.2.2.2.2.2.1 j hj, (hP9.2.2.2.2.2.2.1 j hj).2⟩
  have hl2 : ∀ j, j < np → ∀ q, q < 4 * rw9 j → fb_ 1155 (D2 2 (32 * j + q)) := fun j hj q hq => by rw [hP9.2.2.2.2.2.2.2.2.2 j hj q hq]; exact hP9.2.2.2.2.2.2.2.2.1 j hj q hq
  refine lv_aload_n hx hb dlaw_734 rfl (lv_at hl 4 rfl) ?_
  refine lv_aload_n hx hb dlaw_735 rfl (lv_at hl 5 rfl) ?_
  refine lv_iload hx hb dlaw_736 (lv_at hl 0 rfl) ?_
  refine lv_iconst (v := nI 1) hx hb dlaw_738 (by decide +kernel) ?_
  refine lv_iadd hx hb dlaw_739 ?_
  refine rw_i (y := nI (4 * t + 1)) (nI_add _ _) ?_
  refine rw_sld (k := (4 * t + 1)) hx hb hX hbl (Nat.not_le.mpr hbl) hS (by omega) (by omega) dlaw_740 ?_
  refine lv_aload_n hx hb dlaw_741 rfl (lv_at hl 2 rfl) ?_
  have hP : va_P (dC, dI) vwCl ([] ++ (((ob, .inl (k 4, 1, .inr (.inl o))) :: wd k b P I D) ++ ([(od, .inl (k 1, 1, wd_d q))] ++ wm k b2 I2 D2))) H := by rw [← lw_L]; exact hP
  have hD : va_D (fun q : Nat => s.heap.size ≤ q) ([] ++ (((ob, .inl (k 4, 1, .inr (.inl o))) :: wd k b P I D) ++ ([(od, .inl (k 1, 1, wd_d q))] ++ wm k b2 I2 D2))) := by rw [← lw_L]; exact hD
  refine sg_i (sw_runS (ws' := []) (n := 3) (As := [.ref (b 0), .int (xs (4 * t + 1)), .ref ob]) (rest := []) ⟨hx, hb, hml, hown, hts⟩ (hLa_count l hln dC dI k b P I D _ ob o (xs (4 * t + 1)) ns hS9.1 hS9.2.1 hS9.2.2.2.1 hT9.1 hT9.2.1 hT9.2.2.1 jd9 hJ9.1 hJ9.2.1 hJ9.2.2.1 hJ9.2.2.2) rfl rfl (Nat.le_of_ble_eq_true rfl) (Nat.le_of_ble_eq_true rfl) tw_627 tw_626 tw_0 tw_625 (by decide +kernel) ⟨ct_blind (ev := ev_L) ev_L.blind, ct_now (A := (fun q : Nat => s.heap.size ≤ q)) (ev := ev_L) (fun U hU hW9 => hE.to hW9 (st_law hS hU)) (sg_Pc hP) hK (sg_Dc hD)⟩ rfl rfl hl.1 rfl (lv_room (Nat.le_of_ble_eq_true rfl)) dlaw_742 ⟨hcc, hss⟩) hP hD hS (fun _ h => h) (fun r u H locs hc hP hD hS => ?_)
  have hP : va_P (dC, dI) vwCl (lw k b P u.2.1 u.2.2 b2 I2 D2 ob u.1 od q) H := by rw [lw_L]; exact hP
  have hD : va_D (fun q : Nat => s.heap.size ≤ q) (lw k b P u.2.1 u.2.2 b2 I2 D2 ob u.1 od q) := by rw [lw_L]; exact hD
  refine lv_istore (lv' := [(6, .int r), (5, .int (nI (4 * t))), (4, .ref od), (3, .ref ob), (2, .ref (b2 0)), (1, .ref (b 0)), (0, .ref sb)]) hx hb dlaw_745 hl (by decide) rfl (fun ls hl => ?_)
  refine lv_aload_n hx hb dlaw_747 rfl (lv_at hl 4 rfl) ?_
  refine lv_aload_n hx hb dlaw_748 rfl (lv_at hl 6 rfl) ?_
  refine lv_iload hx hb dlaw_749 (lv_at hl 1 rfl) ?_
  refine lv_iconst (v := nI 1) hx hb dlaw_751 (by decide +kernel) ?_
  refine lv_iadd hx hb dlaw_752 ?_
  refine rw_i (y := nI (4 * t + 1)) (nI_add _ _) ?_
  refine rw_sld (k := (4 * t + 1)) hx hb hX hbl (Nat.not_le.mpr hbl) hS (by omega) (by omega) dlaw_753 ?_
  have hP : va_P (dC, dI) vwCl (([(ob, .inl (k 4, 1, .inr (.inl u.1)))] ++ (wd k b P u.2.1 u.2.2 ++ [(od, .inl (k 1, 1, wd_d q))])) ++ (wm k b2 I2 D2 ++ [])) H := by rw [← lw_M]; exact hP
  have hD : va_D (fun q : Nat => s.heap.size ≤ q) (([(ob, .inl (k 4, 1, .inr (.inl u.1)))] ++ (wd k b P u.2.1 u.2.2 ++ [(od, .inl (k 1, 1, wd_d q))])) ++ (wm k b2 I2 D2 ++ [])) := by rw [← lw_M]; exact hD
  refine sg_i (va_runV (As := [.int (xs (4 * t + 1))]) (rest := []) ⟨hx, hb, hml, hown, hts⟩ (kMo_count l dC dI k b2 I2 D2 _ (xs (4 * t + 1)) ns hS9.1 hS9.2.2.1 hs2 hT9.2.2.2.1 hT9.2.2.2.2) (cwV 1 hts (gw_V tw_871 tw_872 tw_873 tw_9 tw_874) rfl rfl rfl (by decide +kernel) ⟨Nat.le_of_ble_eq_true rfl, Nat.le_of_ble_eq_true rfl⟩) ⟨ct_blind (ev := fun _ => True) (fun _ _ _ _ h => h), va_recv hK (sg_Pc hP) (ci := 8) (q0 := 0) rfl rfl, ct_now (A := (fun q : Nat => s.heap.size ≤ q)) (ev := fun _ => True) (fun _ _ _ => trivial) (sg_Pc hP) (hK.sub (tys' := mo_ty k) [0, 1] rfl) (sg_Dc hD)⟩ rfl rfl hl.1 rfl (lv_room (Nat.le_of_ble_eq_true rfl)) dlaw_754 ⟨hcc, hss⟩) hP hD hS (fun _ h => h) (fun r2 u2 H locs hm hP hD hS => ?_)
  have hP : va_P (dC, dI) vwCl (lw k b P u.2.1 u.2.2 b2 u2 D2 ob u.1 od q) H := by rw [lw_M]; exact hP
  have hD : va_D (fun q : Nat => s.heap.size ≤ q) (lw k b P u.2.1 u.2.2 b2 u2 D2 ob u.1 od q) := by rw [lw_M]; exact hD
  refine lv_istore (lv' := [(7, .int r2), (6, .int r), (5, .int (nI (4 * t))), (4, .ref od), (3, .ref ob), (2, .ref (b2 0)), (1, .ref (b 0)), (0, .ref sb)]) hx hb dlaw_757 hl (by decide) rfl (fun ls hl => ?_)
  refine lv_goto (tgt := 762) hx hb dlaw_759 (by decide) ?_
  have hag := ag_count R (xs (4 * t + 1)) hc hm
  exact K _ _ _ _ _ _ _ _ _ _ hag.2.2 hP hD hS (lv_sub hl [2, 3, 4, 5, 6, 7] rfl)
