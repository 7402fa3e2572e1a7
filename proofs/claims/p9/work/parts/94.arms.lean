set_option maxHeartbeats 4000000 in
set_option maxRecDepth 100000 in
theorem ar_octets {p : Program} {e : Env} {s : State} {m : MethodId} {below : List Frame} {meth : Method} {c : Code} {Q : State → Prop} (l : Launch) {sb L : Nat} {xs : Nat → Int32} (t : Nat) (hL4 : 4 * t + 4 ≤ L) (hLb : L ≤ 2048) {dC : Nat → ClassId} {dI : Nat → Nat → Nat} {k : Nat → ClassId} (CX : la_cx p l s m c sb L xs dC dI k) {b b2 : Nat → Nat} {P : Nat → Nat} {I I2 : Nat → Nat → Int32} {D D2 : Nat → Nat → UInt64} {ob od : Nat} {o : Nat → Int64} {q : Nat → UInt64} (RX : rx P I D I2 D2) {H : Heap} {locs : List Loc} {ls : Array Slot} {cells slots : Nat} (hcc : cells + 1 ≤ 601024) (hss : slots + 6 ≤ 7293034) (hP : va_P (dC, dI) vwCl (lw k b P I D b2 I2 D2 ob o od q) H) (hD : va_D (fun q : Nat => s.heap.size ≤ q) (lw k b P I D b2 I2 D2 ob o od q)) (hS : va_S (fun q : Nat => s.heap.size ≤ q) s.heap H locs) (hl : lv_has ls 9 [(5, .int (nI (4 * t))), (4, .ref od), (3, .ref ob), (2, .ref (b2 0)), (1, .ref (b 0)), (0, .ref sb)]) (K : ∀ (P : Nat → Nat) (I : Nat → Nat → Int32) (D : Nat → Nat → UInt64) (I2 : Nat → Nat → Int32) (D2 : Nat → Nat → UInt64) (o : Nat → Int64) (q : Nat → UInt64) (H : Heap) (locs : List Loc) (ls : Array Slot), rx P I D I2 D2 → va_P (dC, dI) vwCl (lw k b P I D b2 I2 D2 ob o od q) H → va_D (fun q : Nat => s.heap.size ≤ q) (lw k b P I D b2 I2 D2 ob o od q) → va_S (fun q : Nat => s.heap.size ≤ q) s.heap H locs → lv_has ls 9 [(5, .int (nI (4 * t))), (4, .ref od), (3, .ref ob), (2, .ref (b2 0)), (1, .ref (b 0)), (0, .ref sb)] → W p l e room_1 s m #[Value.ref sb] below meth c H locs (cells + 1) (slots + 6) Q (F0 m 762 ls [])) : W p l e room_1 s m #[Value.ref sb] below meth c H locs cells slots Q (F0 m 124 ls []) := by
  obtain ⟨hx, hb, hml, hown, hts, hX, hbl, hK, hE, hln⟩ := CX
  obtain ⟨n, oc, ns, gp, np, rw9, nw, jd9, R⟩ := RX
  obtain ⟨hF9, hS9, hM9, hP9, hW9, hJ9, hT9⟩ := id R
  have hs2 : ∀ i, i < ns → fb_ 1057 (D2 1 i) := fun i hi => by rw [hS9.2.2.2.2 i hi]; exact hS9.2.2.2.1 i hi
  have hr2 : ∀ j, j < np → I2 3 j = nI (rw9 j) ∧ 1 ≤ rw9 j ∧ rw9 j ≤ 8 := fun j hj => ⟨hP9.2.2.2.2.2.2.2.1 j hj, (hP9.2.2.2.2.2.2.1 j hj).2⟩
  have hl2 : ∀ j, j < np → ∀ q, q < 4 * rw9 j → fb_ 1155 (D2 2 (32 * j + q)) := fun j hj q hq => by rw [hP9.2.2.2.2.2.2.2.2.2 j hj q hq]; exact hP9.2.2.2.2.2.2.2.2.1 j hj q hq
  obtain ⟨Wv, hW, eW⟩ := ln_of ((xs (4 * t + 2)).toInt64 <<< ((nI 32).toInt64 &&& 63) ||| ((xs (4 * t + 3)).toInt64 &&& lN 4294967295))
  refine lv_aload_n hx hb dlaw_124 rfl (lv_at hl 4 rfl) ?_
  refine lv_aload_n hx hb dlaw_125 rfl (lv_at hl 5 rfl) ?_
  refine lv_iload hx hb dlaw_126 (lv_at hl 0 rfl) ?_
  refine lv_iconst (v := nI 1) hx hb dlaw_128 (by decide +kernel) ?_
  refine lv_iadd hx hb dlaw_129 ?_
  refine rw_i (y := nI (4 * t + 1)) (nI_add _ _) ?_
  refine rw_sld (k := (4 * t + 1)) hx hb hX hbl (Nat.not_le.mpr hbl) hS (by omega) (by omega) dlaw_130 ?_
  refine lv_aload_n hx hb dlaw_131 rfl (lv_at hl 5 rfl) ?_
  refine lv_iload hx hb dlaw_132 (lv_at hl 0 rfl) ?_
  refine lv_iconst (v := nI 2) hx hb dlaw_134 (by decide +kernel) ?_
  refine lv_iadd hx hb dlaw_135 ?_
  refine rw_i (y := nI (4 * t + 2)) (nI_add _ _) ?_
  refine rw_sld (k := (4 * t + 2)) hx hb hX hbl (Nat.not_le.mpr hbl) hS (by omega) (by omega) dlaw_136 ?_
  refine lv_i2l (v := (xs (4 * t + 2)).toInt64) hx hb dlaw_137 rfl ?_
  refine lv_bipush (v := nI 32) hx hb dlaw_138 (by decide +kernel) ?_
  refine lv_lshl (v := (xs (4 * t + 2)).toInt64 <<< ((nI 32).toInt64 &&& 63)) hx hb dlaw_140 rfl ?_
  refine lv_aload_n hx hb dlaw_141 rfl (lv_at hl 5 rfl) ?_
  refine lv_iload hx hb dlaw_142 (lv_at hl 0 rfl) ?_
  refine lv_iconst (v := nI 3) hx hb dlaw_144 (by decide +kernel) ?_
  refine lv_iadd hx hb dlaw_145 ?_
  refine rw_i (y := nI (4 * t + 3)) (nI_add _ _) ?_
  refine rw_sld (k := (4 * t + 3)) hx hb hX hbl (Nat.not_le.mpr hbl) hS (by omega) (by omega) dlaw_146 ?_
  refine lv_i2l (v := (xs (4 * t + 3)).toInt64) hx hb dlaw_147 rfl ?_
  refine lv_ldc2 (v := 4294967295) hx hb hown (hts _ tw_876) dlaw_148 ?_
  refine rw_l (y := lN 4294967295) (by decide +kernel) ?_
  refine lv_land hx hb dlaw_151 ?_
  refine lv_lor hx hb dlaw_152 ?_
  refine rw_l (y := lN Wv) eW ?_
  refine lv_aload_n hx hb dlaw_153 rfl (lv_at hl 2 rfl) ?_
  have hP : va_P (dC, dI) vwCl ([] ++ (((ob, .inl (k 4, 1, .inr (.inl o))) :: wd k b P I D) ++ ([(od, .inl (k 1, 1, wd_d q))] ++ wm k b2 I2 D2))) H := by rw [← lw_L]; exact hP
  have hD : va_D (fun q : Nat => s.heap.size ≤ q) ([] ++ (((ob, .inl (k 4, 1, .inr (.inl o))) :: wd k b P I D) ++ ([(od, .inl (k 1, 1, wd_d q))] ++ wm k b2 I2 D2))) := by rw [← lw_L]; exact hD
  refine sg_i (sw_runS (ws' := []) (n := 4) (As := [.ref (b 0), .int (xs (4 * t + 1)), .long (lN Wv), .ref ob]) (rest := []) ⟨hx, hb, hml, hown, hts⟩ (hLa_octets l hln dC dI k b P I D _ ob o (xs (4 * t + 1)) Wv n hW hF9.1 hF9.2.1) rfl rfl (Nat.le_of_ble_eq_true rfl) (Nat.le_of_ble_eq_true rfl) tw_241 tw_240 tw_0 tw_239 (by decide +kernel) ⟨ct_blind (ev := ev_L) ev_L.blind, ct_now (A := (fun q : Nat => s.heap.size ≤ q)) (ev := ev_L) (fun U hU hW9 => hE.to hW9 (st_law hS hU)) (sg_Pc hP) hK (sg_Dc hD)⟩ rfl rfl hl.1 rfl (lv_room (Nat.le_of_ble_eq_true rfl)) dlaw_154 ⟨hcc, hss⟩) hP hD hS (fun _ h => h) (fun r u H locs hc hP hD hS => ?_)
  have hP : va_P (dC, dI) vwCl (lw k b P u.2 D b2 I2 D2 ob u.1 od q) H := by rw [lw_L]; exact hP
  have hD : va_D (fun q : Nat => s.heap.size ≤ q) (lw k b P u.2 D b2 I2 D2 ob u.1 od q) := by rw [lw_L]; exact hD
  refine lv_istore (lv' := [(6, .int r), (5, .int (nI (4 * t))), (4, .ref od), (3, .ref ob), (2, .ref (b2 0)), (1, .ref (b 0)), (0, .ref sb)]) hx hb dlaw_157 hl (by decide) rfl (fun ls hl => ?_)
  refine lv_aload_n hx hb dlaw_159 rfl (lv_at hl 4 rfl) ?_
  refine lv_aload_n hx hb dlaw_160 rfl (lv_at hl 6 rfl) ?_
  refine lv_iload hx hb dlaw_161 (lv_at hl 1 rfl) ?_
  refine lv_iconst (v := nI 1) hx hb dlaw_163 (by decide +kernel) ?_
  refine lv_iadd hx hb dlaw_164 ?_
  refine rw_i (y := nI (4 * t + 1)) (nI_add _ _) ?_
  refine rw_sld (k := (4 * t + 1)) hx hb hX hbl (Nat.not_le.mpr hbl) hS (by omega) (by omega) dlaw_165 ?_
  refine lv_aload_n hx hb dlaw_166 rfl (lv_at hl 6 rfl) ?_
  refine lv_iload hx hb dlaw_167 (lv_at hl 1 rfl) ?_
  refine lv_iconst (v := nI 2) hx hb dlaw_169 (by decide +kernel) ?_
  refine lv_iadd hx hb dlaw_170 ?_
  refine rw_i (y := nI (4 * t + 2)) (nI_add _ _) ?_
  refine rw_sld (k := (4 * t + 2)) hx hb hX hbl (Nat.not_le.mpr hbl) hS (by omega) (by omega) dlaw_171 ?_
  refine lv_i2l (v := (xs (4 * t + 2)).toInt64) hx hb dlaw_172 rfl ?_
  refine lv_bipush (v := nI 32) hx hb dlaw_173 (by decide +kernel) ?_
  refine lv_lshl (v := (xs (4 * t + 2)).toInt64 <<< ((nI 32).toInt64 &&& 63)) hx hb dlaw_175 rfl ?_
  refine lv_aload_n hx hb dlaw_176 rfl (lv_at hl 6 rfl) ?_
  refine lv_iload hx hb dlaw_177 (lv_at hl 1 rfl) ?_
  refine lv_iconst (v := nI 3) hx hb dlaw_179 (by decide +kernel) ?_
  refine lv_iadd hx hb dlaw_180 ?_
  refine rw_i (y := nI (4 * t + 3)) (nI_add _ _) ?_
  refine rw_sld (k := (4 * t + 3)) hx hb hX hbl (Nat.not_le.mpr hbl) hS (by omega) (by omega) dlaw_181 ?_
  refine lv_i2l (v := (xs (4 * t + 3)).toInt64) hx hb dlaw_182 rfl ?_
  refine lv_ldc2 (v := 4294967295) hx hb hown (hts _ tw_876) dlaw_183 ?_
  refine rw_l (y := lN 4294967295) (by decide +kernel) ?_
  refine lv_land hx hb dlaw_186 ?_
  refine lv_lor hx hb dlaw_187 ?_
  refine rw_l (y := lN Wv) eW ?_
  have hP : va_P (dC, dI) vwCl (([(ob, .inl (k 4, 1, .inr (.inl u.1)))] ++ (wd k b P u.2 D ++ [(od, .inl (k 1, 1, wd_d q))])) ++ (wm k b2 I2 D2 ++ [])) H := by rw [← lw_M]; exact hP
  have hD : va_D (fun q : Nat => s.heap.size ≤ q) (([(ob, .inl (k 4, 1, .inr (.inl u.1)))] ++ (wd k b P u.2 D ++ [(od, .inl (k 1, 1, wd_d q))])) ++ (wm k b2 I2 D2 ++ [])) := by rw [← lw_M]; exact hD
  refine sg_i (va_runV (As := [.int (xs (4 * t + 1)), .long (lN Wv)]) (rest := []) ⟨hx, hb, hml, hown, hts⟩ (kMo_octets l dC dI k b2 I2 D2 _ (xs (4 * t + 1)) Wv n hW hF9.1 hF9.2.2.1) (cwV 2 hts (gw_V tw_733 tw_734 tw_735 tw_9 tw_736) rfl rfl rfl (by decide +kernel) ⟨Nat.le_of_ble_eq_true rfl, Nat.le_of_ble_eq_true rfl⟩) ⟨ct_blind (ev := fun _ => True) (fun _ _ _ _ h => h), va_recv hK (sg_Pc hP) (ci := 8) (q0 := 0) rfl rfl, ct_now (A := (fun q : Nat => s.heap.size ≤ q)) (ev := fun _ => True) (fun _ _ _ => trivial) (sg_Pc hP) (hK.sub (tys' := mo_ty k) [0, 1] rfl) (sg_Dc hD)⟩ rfl rfl hl.1 rfl (lv_room (Nat.le_of_ble_eq_true rfl)) dlaw_188 ⟨hcc, hss⟩) hP hD hS (fun _ h => h) (fun r2 u2 H locs hm hP hD hS => ?_)
  have hP : va_P (dC, dI) vwCl (lw k b P u.2 D b2 u2 D2 ob u.1 od q) H := by rw [lw_M]; exact hP
  have hD : va_D (fun q : Nat => s.heap.size ≤ q) (lw k b P u.2 D b2 u2 D2 ob u.1 od q) := by rw [lw_M]; exact hD
  refine lv_istore (lv' := [(7, .int r2), (6, .int r), (5, .int (nI (4 * t))), (4, .ref od), (3, .ref ob), (2, .ref (b2 0)), (1, .ref (b 0)), (0, .ref sb)]) hx hb dlaw_191 hl (by decide) rfl (fun ls hl => ?_)
  refine lv_goto (tgt := 762) hx hb dlaw_193 (by decide) ?_
  have hag := ag_octets R (xs (4 * t + 1)) Wv hc hm
  exact K _ _ _ _ _ _ _ _ _ _ hag.2.2 hP hD hS (lv_sub hl [2, 3, 4, 5, 6, 7] rfl)
set_option maxHeartbeats 4000000 in
set_option maxRecDepth 100000 in
theorem ar_read {p : Program} {e : Env} {s : State} {m : MethodId} {below : List Frame} {meth : Method} {c : Code} {Q : State → Prop} (l : Launch) {sb L : Nat} {xs : Nat → Int32} (t : Nat) (hL4 : 4 * t + 4 ≤ L) (hLb : L ≤ 2048) {dC : Nat → ClassId} {dI : Nat → Nat → Nat} {k : Nat → ClassId} (CX : la_cx p l s m c sb L xs dC dI k) {b b2 : Nat → Nat} {P : Nat → Nat} {I I2 : Nat → Nat → Int32} {D D2 : Nat → Nat → UInt64} {ob od : Nat} {o : Nat → Int64} {q : Nat → UInt64} (RX : rx P I D I2 D2) {H : Heap} {locs : List Loc} {ls : Array Slot} {cells slots : Nat} (hcc : cells + 1 ≤ 601024) (hss : slots + 6 ≤ 7293034) (hP : va_P (dC, dI) vwCl (lw k b P I D b2 I2 D2 ob o od q) H) (hD : va_D (fun q : Nat => s.heap.size ≤ q) (lw k b P I D b2 I2 D2 ob o od q)) (hS : va_S (fun q : Nat => s.heap.size ≤ q) s.heap H locs) (hl : lv_has ls 9 [(5, .int (nI (4 * t))), (4, .ref od), (3, .ref ob), (2, .ref (b2 0)), (1, .ref (b 0)), (0, .ref sb)]) (K : ∀ (P : Nat → Nat) (I : Nat → Nat → Int32) (D : Nat → Nat → UInt64) (I2 : Nat → Nat → Int32) (D2 : Nat → Nat → UInt64) (o : Nat → Int64) (q : Nat → UInt64) (H : Heap) (locs : List Loc) (ls : Array Slot), rx P I D I2 D2 → va_P (dC, dI) vwCl (lw k b P I D b2 I2 D2 ob o od q) H → va_D (fun q : Nat => s.heap.size ≤ q) (lw k b P I D b2 I2 D2 ob o od q) → va_S (fun q : Nat => s.heap.size ≤ q) s.heap H locs → lv_has ls 9 [(5, .int (nI (4 * t))), (4, .ref od), (3, .ref ob), (2, .ref (b2 0)), (1, .ref (b 0)), (0, .ref sb)] → W p l e room_1 s m #[Value.ref sb] below meth c H locs (cells + 1) (slots + 6) Q (F0 m 762 ls [])) : W p l e room_1 s m #[Value.ref sb] below meth c H locs cells slots Q (F0 m 196 ls []) := by
  obtain ⟨hx, hb, hml, hown, hts, hX, hbl, hK, hE, hln⟩ := CX
  obtain ⟨n, oc, ns, gp, np, rw9, nw, jd9, R⟩ := RX
  obtain ⟨hF9, hS9, hM9, hP9, hW9, hJ9, hT9⟩ := id R
  have hs2 : ∀ i, i < ns → fb_ 1057 (D2 1 i) := fun i hi => by rw [hS9.2.2.2.2 i hi]; exact hS9.2.2.2.1 i hi
  have hr2 : ∀ j, j < np → I2 3 j = nI (rw9 j) ∧ 1 ≤ rw9 j ∧ rw9 j ≤ 8 := fun j hj => ⟨hP9.2.2.2.2.2.2.2.1 j hj, (hP9.2.2.2.2.2.2.1 j hj).2⟩
  have hl2 : ∀ j, j < np → ∀ q, q < 4 * rw9 j → fb_ 1155 (D2 2 (32 * j + q)) := fun j hj q hq => by rw [hP9.2.2.2.2.2.2.2.2.2 j hj q hq]; exact hP9.2.2.2.2.2.2.2.2.1 j hj q hq
  refine lv_aload_n hx hb dlaw_196 rfl (lv_at hl 4 rfl) ?_
  refine lv_aload_n hx hb dlaw_197 rfl (lv_at hl 2 rfl) ?_
  have hP : va_P (dC, dI) vwCl ([] ++ (((ob, .inl (k 4, 1, .inr (.inl o))) :: wd k b P I D) ++ ([(od, .inl (k 1, 1, wd_d q))] ++ wm k b2 I2 D2))) H := by rw [← lw_L]; exact hP
  have hD : va_D (fun q : Nat => s.heap.size ≤ q) ([] ++ (((ob, .inl (k 4, 1, .inr (.inl o))) :: wd k b P I D) ++ ([(od, .inl (k 1, 1, wd_d q))] ++ wm k b2 I2 D2))) := by rw [← lw_L]; exact hD
  refine sg_i (sw_runS (ws' := []) (n := 2) (As := [.ref (b 0), .ref ob]) (rest := []) ⟨hx, hb, hml, hown, hts⟩ (hLa_read l hln dC dI k b P I D _ ob o n hF9.1 hF9.2.1 oc hF9.2.2.2.1) rfl rfl (Nat.le_of_ble_eq_true rfl) (Nat.le_of_ble_eq_true rfl) tw_339 tw_338 tw_0 tw_337 (by decide +kernel) ⟨ct_blind (ev := ev_L) ev_L.blind, ct_now (A := (fun q : Nat => s.heap.size ≤ q)) (ev := ev_L) (fun U hU hW9 => hE.to hW9 (st_law hS hU)) (sg_Pc hP) hK (sg_Dc hD)⟩ rfl rfl hl.1 rfl (lv_room (Nat.le_of_ble_eq_true rfl)) dlaw_198 ⟨hcc, hss⟩) hP hD hS (fun _ h => h) (fun r u H locs hc hP hD hS => ?_)
  have hP : va_P (dC, dI) vwCl (lw k b P u.2.1 (us D 1 u.2.2) b2 I2 D2 ob u.1 od q) H := by rw [lw_L]; exact hP
  have hD : va_D (fun q : Nat => s.heap.size ≤ q) (lw k b P u.2.1 (us D 1 u.2.2) b2 I2 D2 ob u.1 od q) := by rw [lw_L]; exact hD
  refine lv_istore (lv' := [(6, .int r), (5, .int (nI (4 * t))), (4, .ref od), (3, .ref ob), (2, .ref (b2 0)), (1, .ref (b 0)), (0, .ref sb)]) hx hb dlaw_201 hl (by decide) rfl (fun ls hl => ?_)
  refine lv_aload_n hx hb dlaw_203 rfl (lv_at hl 4 rfl) ?_
  have hP : va_P (dC, dI) vwCl (([(ob, .inl (k 4, 1, .inr (.inl u.1)))] ++ (wd k b P u.2.1 (us D 1 u.2.2) ++ [(od, .inl (k 1, 1, wd_d q))])) ++ (wm k b2 I2 D2 ++ [])) H := by rw [← lw_M]; exact hP
  have hD : va_D (fun q : Nat => s.heap.size ≤ q) (([(ob, .inl (k 4, 1, .inr (.inl u.1)))] ++ (wd k b P u.2.1 (us D 1 u.2.2) ++ [(od, .inl (k 1, 1, wd_d q))])) ++ (wm k b2 I2 D2 ++ [])) := by rw [← lw_M]; exact hD
  refine sg_i (va_runV (As := []) (rest := []) ⟨hx, hb, hml, hown, hts⟩ (kMo_read l dC dI k b2 I2 D2 _ n oc hF9.1 hF9.2.2.1 hF9.2.2.2.2) (cwV 0 hts (gw_V tw_746 tw_747 tw_748 tw_9 tw_749) rfl rfl rfl (by decide +kernel) ⟨Nat.le_of_ble_eq_true rfl, Nat.le_of_ble_eq_true rfl⟩) ⟨ct_blind (ev := fun _ => True) (fun _ _ _ _ h => h), va_recv hK (sg_Pc hP) (ci := 8) (q0 := 0) rfl rfl, ct_now (A := (fun q : Nat => s.heap.size ≤ q)) (ev := fun _ => True) (fun _ _ _ => trivial) (sg_Pc hP) (hK.sub (tys' := mo_ty k) [0, 1] rfl) (sg_Dc hD)⟩ rfl rfl hl.1 rfl (lv_room (Nat.le_of_ble_eq_true rfl)) dlaw_204 ⟨hcc, hss⟩) hP hD hS (fun _ h => h) (fun r2 u2 H locs hm hP hD hS => ?_)
  have hP : va_P (dC, dI) vwCl (lw k b P u.2.1 (us D 1 u.2.2) b2 u2.1 (us D2 1 u2.2) ob u.1 od q) H := by rw [lw_M]; exact hP
  have hD : va_D (fun q : Nat => s.heap.size ≤ q) (lw k b P u.2.1 (us D 1 u.2.2) b2 u2.1 (us D2 1 u2.2) ob u.1 od q) := by rw [lw_M]; exact hD
  refine lv_istore (lv' := [(7, .int r2), (6, .int r), (5, .int (nI (4 * t))), (4, .ref od), (3, .ref ob), (2, .ref (b2 0)), (1, .ref (b 0)), (0, .ref sb)]) hx hb dlaw_207 hl (by decide) rfl (fun ls hl => ?_)
  refine lv_goto (tgt := 762) hx hb dlaw_209 (by decide) ?_
  have hag := ag_read R  hc hm
  exact K _ _ _ _ _ _ _ _ _ _ hag.2.2 hP hD hS (lv_sub hl [2, 3, 4, 5, 6, 7] rfl)
set_option maxHeartbeats 4000000 in
set_option maxRecDepth 100000 in
theorem ar_place {p : Program} {e : Env} {s : State} {m : MethodId} {below : List Frame} {meth : Method} {c : Code} {Q : State → Prop} (l : Launch) {sb L : Nat} {xs : Nat → Int32} (t : Nat) (hL4 : 4 * t + 4 ≤ L) (hLb : L ≤ 2048) {dC : Nat → ClassId} {dI : Nat → Nat → Nat} {k : Nat → ClassId} (CX : la_cx p l s m c sb L xs dC dI k) {b b2 : Nat → Nat} {P : Nat → Nat} {I I2 : Nat → Nat → Int32} {D D2 : Nat → Nat → UInt64} {ob od : Nat} {o : Nat → Int64} {q : Nat → UInt64} (RX : rx P I D I2 D2) {H : Heap} {locs : List Loc} {ls : Array Slot} {cells slots : Nat} (hcc : cells + 1 ≤ 601024) (hss : slots + 6 ≤ 7293034) (hP : va_P (dC, dI) vwCl (lw k b P I D b2 I2 D2 ob o od q) H) (hD : va_D (fun q : Nat => s.heap.size ≤ q) (lw k b P I D b2 I2 D2 ob o od q)) (hS : va_S (fun q : Nat => s.heap.size ≤ q) s.heap H locs) (hl : lv_has ls 9 [(5, .int (nI (4 * t))), (4, .ref od), (3, .ref ob), (2, .ref (b2 0)), (1, .ref (b 0)), (0, .ref sb)]) (K : ∀ (P : Nat → Nat) (I : Nat → Nat → Int32) (D : Nat → Nat → UInt64) (I2 : Nat → Nat → Int32) (D2 : Nat → Nat → UInt64) (o : Nat → Int64) (q : Nat → UInt64) (H : Heap) (locs : List Loc) (ls : Array Slot), rx P I D I2 D2 → va_P (dC, dI) vwCl (lw k b P I D b2 I2 D2 ob o od q) H → va_D (fun q : Nat => s.heap.size ≤ q) (lw k b P I D b2 I2 D2 ob o od q) → va_S (fun q : Nat => s.heap.size ≤ q) s.heap H locs → lv_has ls 9 [(5, .int (nI (4 * t))), (4, .ref od), (3, .ref ob), (2, .ref (b2 0)), (1, .ref (b 0)), (0, .ref sb)] → W p l e room_1 s m #[Value.ref sb] below meth c H locs (cells + 1) (slots + 6) Q (F0 m 762 ls [])) : W p l e room_1 s m #[Value.ref sb] below meth c H locs cells slots Q (F0 m 212 ls []) := by
  obtain ⟨hx, hb, hml, hown, hts, hX, hbl, hK, hE, hln⟩ := CX
  obtain ⟨n, oc, ns, gp, np, rw9, nw, jd9, R⟩ := RX
  obtain ⟨hF9, hS9, hM9, hP9, hW9, hJ9, hT9⟩ := id R
  have hs2 : ∀ i, i < ns → fb_ 1057 (D2 1 i) := fun i hi => by rw [hS9.2.2.2.2 i hi]; exact hS9.2.2.2.1 i hi
  have hr2 : ∀ j, j < np → I2 3 j = nI (rw9 j) ∧ 1 ≤ rw9 j ∧ rw9 j ≤ 8 := fun j hj => ⟨hP9.2.2.2.2.2.2.2.1 j hj, (hP9.2.2.2.2.2.2.1 j hj).2⟩
  have hl2 : ∀ j, j < np → ∀ q, q < 4 * rw9 j → fb_ 1155 (D2 2 (32 * j + q)) := fun j hj q hq => by rw [hP9.2.2.2.2.2.2.2.2.2 j hj q hq]; exact hP9.2.2.2.2.2.2.2.2.1 j hj q hq
  refine lv_aload_n hx hb dlaw_212 rfl (lv_at hl 4 rfl) ?_
  have hP : va_P (dC, dI) vwCl ([(ob, .inl (k 4, 1, .inr (.inl o)))] ++ (wd k b P I D ++ ([(od, .inl (k 1, 1, wd_d q))] ++ wm k b2 I2 D2))) H := by rw [← lw_C]; exact hP
  have hD : va_D (fun q : Nat => s.heap.size ≤ q) ([(ob, .inl (k 4, 1, .inr (.inl o)))] ++ (wd k b P I D ++ ([(od, .inl (k 1, 1, wd_d q))] ++ wm k b2 I2 D2))) := by rw [← lw_C]; exact hD
  refine sg_i (va_runV (As := []) (rest := []) ⟨hx, hb, hml, hown, hts⟩ (kDe_place l dC dI k b P I D _ ) (cwV 0 hts (gw_V tw_223 tw_224 tw_225 tw_1 tw_226) rfl rfl rfl (by decide +kernel) ⟨Nat.le_of_ble_eq_true rfl, Nat.le_of_ble_eq_true rfl⟩) ⟨ct_blind (ev := (fun _ => True)) (fun _ _ _ _ h => h), va_recv hK (sg_Pc hP) (ci := 7) (q0 := 0) rfl rfl, ct_now (A := (fun q : Nat => s.heap.size ≤ q)) (ev := (fun _ => True)) (fun _ _ _ => trivial) (sg_Pc hP) (hK.sub (tys' := de_ty k) [0, 1, 2, 3] rfl) (sg_Dc hD)⟩ rfl rfl hl.1 rfl (lv_room (Nat.le_of_ble_eq_true rfl)) dlaw_213 ⟨by show cells + 0 ≤ 601024; omega, by show slots + 0 ≤ 7293034; omega⟩) hP hD hS (fun _ h => h) (fun r u H locs hc hP hD hS => ?_)
  have hP : va_P (dC, dI) vwCl (lw k b P I D b2 I2 D2 ob o od q) H := by rw [lw_C]; exact hP
  have hD : va_D (fun q : Nat => s.heap.size ≤ q) (lw k b P I D b2 I2 D2 ob o od q) := by rw [lw_C]; exact hD
  refine lv_pop hx hb dlaw_216 rfl ?_
  refine lv_aload_n hx hb dlaw_217 rfl (lv_at hl 3 rfl) ?_
  have hP : va_P (dC, dI) vwCl (([(ob, .inl (k 4, 1, .inr (.inl o)))] ++ (wd k b P I D ++ [(od, .inl (k 1, 1, wd_d q))])) ++ (wm k b2 I2 D2 ++ [])) H := by rw [← lw_M]; exact hP
  have hD : va_D (fun q : Nat => s.heap.size ≤ q) (([(ob, .inl (k 4, 1, .inr (.inl o)))] ++ (wd k b P I D ++ [(od, .inl (k 1, 1, wd_d q))])) ++ (wm k b2 I2 D2 ++ [])) := by rw [← lw_M]; exact hD
  refine sg_i (va_runV (As := []) (rest := []) ⟨hx, hb, hml, hown, hts⟩ (kMo_place l dC dI k b2 I2 D2 _ ) (cwV 0 hts (gw_V tw_772 tw_773 tw_774 tw_9 tw_775) rfl rfl rfl (by decide +kernel) ⟨Nat.le_of_ble_eq_true rfl, Nat.le_of_ble_eq_true rfl⟩) ⟨ct_blind (ev := fun _ => True) (fun _ _ _ _ h => h), va_recv hK (sg_Pc hP) (ci := 8) (q0 := 0) rfl rfl, ct_now (A := (fun q : Nat => s.heap.size ≤ q)) (ev := fun _ => True) (fun _ _ _ => trivial) (sg_Pc hP) (hK.sub (tys' := mo_ty k) [0, 1] rfl) (sg_Dc hD)⟩ rfl rfl hl.1 rfl (lv_room (Nat.le_of_ble_eq_true rfl)) dlaw_218 ⟨by show cells + 0 ≤ 601024; omega, by show slots + 0 ≤ 7293034; omega⟩) hP hD hS (fun _ h => h) (fun r2 u2 H locs hm hP hD hS => ?_)
  have hP : va_P (dC, dI) vwCl (lw k b P I D b2 u2 D2 ob o od q) H := by rw [lw_M]; exact hP
  have hD : va_D (fun q : Nat => s.heap.size ≤ q) (lw k b P I D b2 u2 D2 ob o od q) := by rw [lw_M]; exact hD
  obtain ⟨hm, hmr⟩ := hm
  refine lv_pop hx hb dlaw_221 rfl ?_
  refine lv_goto (tgt := 762) hx hb dlaw_222 (by decide) ?_
  have hrx : rx P I D u2 D2 := by rw [hm]; exact rx_0 R
  refine W.widen (k := cells + 1) (n := slots + 6) (by omega) (by omega) ?_
  exact K _ _ _ _ _ _ _ _ _ _ hrx hP hD hS (lv_sub hl [0, 1, 2, 3, 4, 5] rfl)
set_option maxHeartbeats 4000000 in
set_option maxRecDepth 100000 in
theorem ar_wave {p : Program} {e : Env} {s : State} {m : MethodId} {below : List Frame} {meth : Method} {c : Code} {Q : State → Prop} (l : Launch) {sb L : Nat} {xs : Nat → Int32} (t : Nat) (hL4 : 4 * t + 4 ≤ L) (hLb : L ≤ 2048) {dC : Nat → ClassId} {dI : Nat → Nat → Nat} {k : Nat → ClassId} (CX : la_cx p l s m c sb L xs dC dI k) {b b2 : Nat → Nat} {P : Nat → Nat} {I I2 : Nat → Nat → Int32} {D D2 : Nat → Nat → UInt64} {ob od : Nat} {o : Nat → Int64} {q : Nat → UInt64} (RX : rx P I D I2 D2) {H : Heap} {locs : List Loc} {ls : Array Slot} {cells slots : Nat} (hcc : cells + 1 ≤ 601024) (hss : slots + 6 ≤ 7293034) (hP : va_P (dC, dI) vwCl (lw k b P I D b2 I2 D2 ob o od q) H) (hD : va_D (fun q : Nat => s.heap.size ≤ q) (lw k b P I D b2 I2 D2 ob o od q)) (hS : va_S (fun q : Nat => s.heap.size ≤ q) s.heap H locs) (hl : lv_has ls 9 [(5, .int (nI (4 * t))), (4, .ref od), (3, .ref ob), (2, .ref (b2 0)), (1, .ref (b 0)), (0, .ref sb)]) (K : ∀ (P : Nat → Nat) (I : Nat → Nat → Int32) (D : Nat → Nat → UInt64) (I2 : Nat → Nat → Int32) (D2 : Nat → Nat → UInt64) (o : Nat → Int64) (q : Nat → UInt64) (H : Heap) (locs : List Loc) (ls : Array Slot), rx P I D I2 D2 → va_P (dC, dI) vwCl (lw k b P I D b2 I2 D2 ob o od q) H → va_D (fun q : Nat => s.heap.size ≤ q) (lw k b P I D b2 I2 D2 ob o od q) → va_S (fun q : Nat => s.heap.size ≤ q) s.heap H locs → lv_has ls 9 [(5, .int (nI (4 * t))), (4, .ref od), (3, .ref ob), (2, .ref (b2 0)), (1, .ref (b 0)), (0, .ref sb)] → W p l e room_1 s m #[Value.ref sb] below meth c H locs (cells + 1) (slots + 6) Q (F0 m 762 ls [])) : W p l e room_1 s m #[Value.ref sb] below meth c H locs cells slots Q (F0 m 225 ls []) := by
  obtain ⟨hx, hb, hml, hown, hts, hX, hbl, hK, hE, hln⟩ := CX
  obtain ⟨n, oc, ns, gp, np, rw9, nw, jd9, R⟩ := RX
  obtain ⟨hF9, hS9, hM9, hP9, hW9, hJ9, hT9⟩ := id R
  have hs2 : ∀ i, i < ns → fb_ 1057 (D2 1 i) := fun i hi => by rw [hS9.2.2.2.2 i hi]; exact hS9.2.2.2.1 i hi
  have hr2 : ∀ j, j < np → I2 3 j = nI (rw9 j) ∧ 1 ≤ rw9 j ∧ rw9 j ≤ 8 := fun j hj => ⟨hP9.2.2.2.2.2.2.2.1 j hj, (hP9.2.2.2.2.2.2.1 j hj).2⟩
  have hl2 : ∀ j, j < np → ∀ q, q < 4 * rw9 j → fb_ 1155 (D2 2 (32 * j + q)) := fun j hj q hq => by rw [hP9.2.2.2.2.2.2.2.2.2 j hj q hq]; exact hP9.2.2.2.2.2.2.2.2.1 j hj q hq
  refine lv_aload_n hx hb dlaw_225 rfl (lv_at hl 4 rfl) ?_
  refine lv_aload_n hx hb dlaw_226 rfl (lv_at hl 5 rfl) ?_
  refine lv_iload hx hb dlaw_227 (lv_at hl 0 rfl) ?_
  refine lv_iconst (v := nI 1) hx hb dlaw_229 (by decide +kernel) ?_
  refine lv_iadd hx hb dlaw_230 ?_
  refine rw_i (y := nI (4 * t + 1)) (nI_add _ _) ?_
  refine rw_sld (k := (4 * t + 1)) hx hb hX hbl (Nat.not_le.mpr hbl) hS (by omega) (by omega) dlaw_231 ?_
  refine lv_aload_n hx hb dlaw_232 rfl (lv_at hl 5 rfl) ?_
  refine lv_iload hx hb dlaw_233 (lv_at hl 0 rfl) ?_
  refine lv_iconst (v := nI 2) hx hb dlaw_235 (by decide +kernel) ?_
  refine lv_iadd hx hb dlaw_236 ?_
  refine rw_i (y := nI (4 * t + 2)) (nI_add _ _) ?_
  refine rw_sld (k := (4 * t + 2)) hx hb hX hbl (Nat.not_le.mpr hbl) hS (by omega) (by omega) dlaw_237 ?_
  refine lv_aload_n hx hb dlaw_238 rfl (lv_at hl 5 rfl) ?_
  refine lv_iload hx hb dlaw_239 (lv_at hl 0 rfl) ?_
  refine lv_iconst (v := nI 3) hx hb dlaw_241 (by decide +kernel) ?_
  refine lv_iadd hx hb dlaw_242 ?_
  refine rw_i (y := nI (4 * t + 3)) (nI_add _ _) ?_
  refine rw_sld (k := (4 * t + 3)) hx hb hX hbl (Nat.not_le.mpr hbl) hS (by omega) (by omega) dlaw_243 ?_
  refine lv_i2d hx hb dlaw_244 ?_
  refine lv_ldc2d (v := 4593671619917905920) hx hb hown (hts _ tw_877) dlaw_245 ?_
  refine lv_dmul hx hb dlaw_248 (fb_n (fb_w8 _) (by decide)) ?_
  refine lv_aload_n hx hb dlaw_249 rfl (lv_at hl 2 rfl) ?_
  have hP : va_P (dC, dI) vwCl ([] ++ (((ob, .inl (k 4, 1, .inr (.inl o))) :: wd k b P I D) ++ ([(od, .inl (k 1, 1, wd_d q))] ++ wm k b2 I2 D2))) H := by rw [← lw_L]; exact hP
  have hD : va_D (fun q : Nat => s.heap.size ≤ q) ([] ++ (((ob, .inl (k 4, 1, .inr (.inl o))) :: wd k b P I D) ++ ([(od, .inl (k 1, 1, wd_d q))] ++ wm k b2 I2 D2))) := by rw [← lw_L]; exact hD
  refine sg_i (sw_runS (ws' := []) (n := 5) (As := [.ref (b 0), .int (xs (4 * t + 1)), .int (xs (4 * t + 2)), .double (FP.dmul (FP.i2d (xs (4 * t + 3))) 4593671619917905920), .ref ob]) (rest := []) ⟨hx, hb, hml, hown, hts⟩ (hLa_wave l hln dC dI k b P I D _ ob o (xs (4 * t + 1)) (xs (4 * t + 2)) (FP.dmul (FP.i2d (xs (4 * t + 3))) 4593671619917905920) (fb_w8 _) ns hS9.1 hS9.2.1 hT9.1) rfl rfl (Nat.le_of_ble_eq_true rfl) (Nat.le_of_ble_eq_true rfl) tw_417 tw_416 tw_0 tw_415 (by decide +kernel) ⟨ct_blind (ev := ev_L) ev_L.blind, ct_now (A := (fun q : Nat => s.heap.size ≤ q)) (ev := ev_L) (fun U hU hW9 => hE.to hW9 (st_law hS hU)) (sg_Pc hP) hK (sg_Dc hD)⟩ rfl rfl hl.1 rfl (lv_room (Nat.le_of_ble_eq_true rfl)) dlaw_250 ⟨hcc, hss⟩) hP hD hS (fun _ h => h) (fun r u H locs hc hP hD hS => ?_)
  have hP : va_P (dC, dI) vwCl (lw k b P u.2.1 u.2.2 b2 I2 D2 ob u.1 od q) H := by rw [lw_L]; exact hP
  have hD : va_D (fun q : Nat => s.heap.size ≤ q) (lw k b P u.2.1 u.2.2 b2 I2 D2 ob u.1 od q) := by rw [lw_L]; exact hD
  refine lv_istore (lv' := [(6, .int r), (5, .int (nI (4 * t))), (4, .ref od), (3, .ref ob), (2, .ref (b2 0)), (1, .ref (b 0)), (0, .ref sb)]) hx hb dlaw_253 hl (by decide) rfl (fun ls hl => ?_)
  refine lv_aload_n hx hb dlaw_255 rfl (lv_at hl 4 rfl) ?_
  refine lv_aload_n hx hb dlaw_256 rfl (lv_at hl 6 rfl) ?_
  refine lv_iload hx hb dlaw_257 (lv_at hl 1 rfl) ?_
  refine lv_iconst (v := nI 1) hx hb dlaw_259 (by decide +kernel) ?_
  refine lv_iadd hx hb dlaw_260 ?_
  refine rw_i (y := nI (4 * t + 1)) (nI_add _ _) ?_
  refine rw_sld (k := (4 * t + 1)) hx hb hX hbl (Nat.not_le.mpr hbl) hS (by omega) (by omega) dlaw_261 ?_
  refine lv_aload_n hx hb dlaw_262 rfl (lv_at hl 6 rfl) ?_
  refine lv_iload hx hb dlaw_263 (lv_at hl 1 rfl) ?_
  refine lv_iconst (v := nI 2) hx hb dlaw_265 (by decide +kernel) ?_
  refine lv_iadd hx hb dlaw_266 ?_
  refine rw_i (y := nI (4 * t + 2)) (nI_add _ _) ?_
  refine rw_sld (k := (4 * t + 2)) hx hb hX hbl (Nat.not_le.mpr hbl) hS (by omega) (by omega) dlaw_267 ?_
  refine lv_aload_n hx hb dlaw_268 rfl (lv_at hl 6 rfl) ?_
  refine lv_iload hx hb dlaw_269 (lv_at hl 1 rfl) ?_
  refine lv_iconst (v := nI 3) hx hb dlaw_271 (by decide +kernel) ?_
  refine lv_iadd hx hb dlaw_272 ?_
  refine rw_i (y := nI (4 * t + 3)) (nI_add _ _) ?_
  refine rw_sld (k := (4 * t + 3)) hx hb hX hbl (Nat.not_le.mpr hbl) hS (by omega) (by omega) dlaw_273 ?_
  refine lv_i2d hx hb dlaw_274 ?_
  refine lv_ldc2d (v := 4593671619917905920) hx hb hown (hts _ tw_877) dlaw_275 ?_
  refine lv_dmul hx hb dlaw_278 (fb_n (fb_w8 _) (by decide)) ?_
  have hP : va_P (dC, dI) vwCl (([(ob, .inl (k 4, 1, .inr (.inl u.1)))] ++ (wd k b P u.2.1 u.2.2 ++ [(od, .inl (k 1, 1, wd_d q))])) ++ (wm k b2 I2 D2 ++ [])) H := by rw [← lw_M]; exact hP
  have hD : va_D (fun q : Nat => s.heap.size ≤ q) (([(ob, .inl (k 4, 1, .inr (.inl u.1)))] ++ (wd k b P u.2.1 u.2.2 ++ [(od, .inl (k 1, 1, wd_d q))])) ++ (wm k b2 I2 D2 ++ [])) := by rw [← lw_M]; exact hD
  refine sg_i (va_runV (As := [.int (xs (4 * t + 1)), .int (xs (4 * t + 2)), .double (FP.dmul (FP.i2d (xs (4 * t + 3))) 4593671619917905920)]) (rest := []) ⟨hx, hb, hml, hown, hts⟩ (kMo_wave l dC dI k b2 I2 D2 _ (xs (4 * t + 1)) (xs (4 * t + 2)) (FP.dmul (FP.i2d (xs (4 * t + 3))) 4593671619917905920) (fb_w8 _) ns hS9.1 hS9.2.2.1 hT9.2.2.2.1) (cwV 3 hts (gw_V tw_776 tw_777 tw_778 tw_9 tw_779) rfl rfl rfl (by decide +kernel) ⟨Nat.le_of_ble_eq_true rfl, Nat.le_of_ble_eq_true rfl⟩) ⟨ct_blind (ev := fun _ => True) (fun _ _ _ _ h => h), va_recv hK (sg_Pc hP) (ci := 8) (q0 := 0) rfl rfl, ct_now (A := (fun q : Nat => s.heap.size ≤ q)) (ev := fun _ => True) (fun _ _ _ => trivial) (sg_Pc hP) (hK.sub (tys' := mo_ty k) [0, 1] rfl) (sg_Dc hD)⟩ rfl rfl hl.1 rfl (lv_room (Nat.le_of_ble_eq_true rfl)) dlaw_279 ⟨hcc, hss⟩) hP hD hS (fun _ h => h) (fun r2 u2 H locs hm hP hD hS => ?_)
  have hP : va_P (dC, dI) vwCl (lw k b P u.2.1 u.2.2 b2 u2.1 u2.2 ob u.1 od q) H := by rw [lw_M]; exact hP
  have hD : va_D (fun q : Nat => s.heap.size ≤ q) (lw k b P u.2.1 u.2.2 b2 u2.1 u2.2 ob u.1 od q) := by rw [lw_M]; exact hD
  refine lv_istore (lv' := [(7, .int r2), (6, .int r), (5, .int (nI (4 * t))), (4, .ref od), (3, .ref ob), (2, .ref (b2 0)), (1, .ref (b 0)), (0, .ref sb)]) hx hb dlaw_282 hl (by decide) rfl (fun ls hl => ?_)
  refine lv_goto (tgt := 762) hx hb dlaw_284 (by decide) ?_
  have hag := ag_wave R (xs (4 * t + 1)) (xs (4 * t + 2)) (FP.dmul (FP.i2d (xs (4 * t + 3))) 4593671619917905920) (fb_w8 _) hc hm
  exact K _ _ _ _ _ _ _ _ _ _ hag.2.2 hP hD hS (lv_sub hl [2, 3, 4, 5, 6, 7] rfl)
set_option maxHeartbeats 4000000 in
set_option maxRecDepth 100000 in
theorem ar_clear {p : Program} {e : Env} {s : State} {m : MethodId} {below : List Frame} {meth : Method} {c : Code} {Q : State → Prop} (l : Launch) {sb L : Nat} {xs : Nat → Int32} (t : Nat) (hL4 : 4 * t + 4 ≤ L) (hLb : L ≤ 2048) {dC : Nat → ClassId} {dI : Nat → Nat → Nat} {k : Nat → ClassId} (CX : la_cx p l s m c sb L xs dC dI k) {b b2 : Nat → Nat} {P : Nat → Nat} {I I2 : Nat → Nat → Int32} {D D2 : Nat → Nat → UInt64} {ob od : Nat} {o : Nat → Int64} {q : Nat → UInt64} (RX : rx P I D I2 D2) {H : Heap} {locs : List Loc} {ls : Array Slot} {cells slots : Nat} (hcc : cells + 1 ≤ 601024) (hss : slots + 6 ≤ 7293034) (hP : va_P (dC, dI) vwCl (lw k b P I D b2 I2 D2 ob o od q) H) (hD : va_D (fun q : Nat => s.heap.size ≤ q) (lw k b P I D b2 I2 D2 ob o od q)) (hS : va_S (fun q : Nat => s.heap.size ≤ q) s.heap H locs) (hl : lv_has ls 9 [(5, .int (nI (4 * t))), (4, .ref od), (3, .ref ob), (2, .ref (b2 0)), (1, .ref (b 0)), (0, .ref sb)]) (K : ∀ (P : Nat → Nat) (I : Nat → Nat → Int32) (D : Nat → Nat → UInt64) (I2 : Nat → Nat → Int32) (D2 : Nat → Nat → UInt64) (o : Nat → Int64) (q : Nat → UInt64) (H : Heap) (locs : List Loc) (ls : Array Slot), rx P I D I2 D2 → va_P (dC, dI) vwCl (lw k b P I D b2 I2 D2 ob o od q) H → va_D (fun q : Nat => s.heap.size ≤ q) (lw k b P I D b2 I2 D2 ob o od q) → va_S (fun q : Nat => s.heap.size ≤ q) s.heap H locs → lv_has ls 9 [(5, .int (nI (4 * t))), (4, .ref od), (3, .ref ob), (2, .ref (b2 0)), (1, .ref (b 0)), (0, .ref sb)] → W p l e room_1 s m #[Value.ref sb] below meth c H locs (cells + 1) (slots + 6) Q (F0 m 762 ls [])) : W p l e room_1 s m #[Value.ref sb] below meth c H locs cells slots Q (F0 m 287 ls []) := by
  obtain ⟨hx, hb, hml, hown, hts, hX, hbl, hK, hE, hln⟩ := CX
  obtain ⟨n, oc, ns, gp, np, rw9, nw, jd9, R⟩ := RX
  obtain ⟨hF9, hS9, hM9, hP9, hW9, hJ9, hT9⟩ := id R
  have hs2 : ∀ i, i < ns → fb_ 1057 (D2 1 i) := fun i hi => by rw [hS9.2.2.2.2 i hi]; exact hS9.2.2.2.1 i hi
  have hr2 : ∀ j, j < np → I2 3 j = nI (rw9 j) ∧ 1 ≤ rw9 j ∧ rw9 j ≤ 8 := fun j hj => ⟨hP9.2.2.2.2.2.2.2.1 j hj, (hP9.2.2.2.2.2.2.1 j hj).2⟩
  have hl2 : ∀ j, j < np → ∀ q, q < 4 * rw9 j → fb_ 1155 (D2 2 (32 * j + q)) := fun j hj q hq => by rw [hP9.2.2.2.2.2.2.2.2.2 j hj q hq]; exact hP9.2.2.2.2.2.2.2.2.1 j hj q hq
  refine lv_aload_n hx hb dlaw_287 rfl (lv_at hl 4 rfl) ?_
  have hP : va_P (dC, dI) vwCl ([(ob, .inl (k 4, 1, .inr (.inl o)))] ++ (wd k b P I D ++ ([(od, .inl (k 1, 1, wd_d q))] ++ wm k b2 I2 D2))) H := by rw [← lw_C]; exact hP
  have hD : va_D (fun q : Nat => s.heap.size ≤ q) ([(ob, .inl (k 4, 1, .inr (.inl o)))] ++ (wd k b P I D ++ ([(od, .inl (k 1, 1, wd_d q))] ++ wm k b2 I2 D2))) := by rw [← lw_C]; exact hD
  refine sg_i (va_runV (As := []) (rest := []) ⟨hx, hb, hml, hown, hts⟩ (kDe_clear l dC dI k b P I D _ ns hS9.2.1) (cwV 0 hts (gw_V tw_227 tw_228 tw_229 tw_1 tw_230) rfl rfl rfl (by decide +kernel) ⟨Nat.le_of_ble_eq_true rfl, Nat.le_of_ble_eq_true rfl⟩) ⟨ct_blind (ev := ev_N) ev_N.blind, va_recv hK (sg_Pc hP) (ci := 7) (q0 := 0) rfl rfl, ct_now (A := (fun q : Nat => s.heap.size ≤ q)) (ev := ev_N) (fun U _ hW9 => hE.1.1.warm hW9) (sg_Pc hP) (hK.sub (tys' := de_ty k) [0, 1, 2, 3] rfl) (sg_Dc hD)⟩ rfl rfl hl.1 rfl (lv_room (Nat.le_of_ble_eq_true rfl)) dlaw_288 ⟨by show cells + 0 ≤ 601024; omega, by show slots + 0 ≤ 7293034; omega⟩) hP hD hS (fun _ h => h) (fun r u H locs hc hP hD hS => ?_)
  obtain ⟨hc, hcu⟩ := hc
  subst hc
  have hP : va_P (dC, dI) vwCl (lw k b P u D b2 I2 D2 ob o od q) H := by rw [lw_C]; exact hP
  have hD : va_D (fun q : Nat => s.heap.size ≤ q) (lw k b P u D b2 I2 D2 ob o od q) := by rw [lw_C]; exact hD
  refine lv_pop hx hb dlaw_291 rfl ?_
  refine lv_aload_n hx hb dlaw_292 rfl (lv_at hl 3 rfl) ?_
  have hP : va_P (dC, dI) vwCl (([(ob, .inl (k 4, 1, .inr (.inl o)))] ++ (wd k b P u D ++ [(od, .inl (k 1, 1, wd_d q))])) ++ (wm k b2 I2 D2 ++ [])) H := by rw [← lw_M]; exact hP
  have hD : va_D (fun q : Nat => s.heap.size ≤ q) (([(ob, .inl (k 4, 1, .inr (.inl o)))] ++ (wd k b P u D ++ [(od, .inl (k 1, 1, wd_d q))])) ++ (wm k b2 I2 D2 ++ [])) := by rw [← lw_M]; exact hD
  refine sg_i (va_runV (As := []) (rest := []) ⟨hx, hb, hml, hown, hts⟩ (kMo_clear l dC dI k b2 I2 D2 _ ) (cwV 0 hts (gw_V tw_782 tw_783 tw_784 tw_9 tw_785) rfl rfl rfl (by decide +kernel) ⟨Nat.le_of_ble_eq_true rfl, Nat.le_of_ble_eq_true rfl⟩) ⟨ct_blind (ev := fun _ => True) (fun _ _ _ _ h => h), va_recv hK (sg_Pc hP) (ci := 8) (q0 := 0) rfl rfl, ct_now (A := (fun q : Nat => s.heap.size ≤ q)) (ev := fun _ => True) (fun _ _ _ => trivial) (sg_Pc hP) (hK.sub (tys' := mo_ty k) [0, 1] rfl) (sg_Dc hD)⟩ rfl rfl hl.1 rfl (lv_room (Nat.le_of_ble_eq_true rfl)) dlaw_293 ⟨by show cells + 0 ≤ 601024; omega, by show slots + 0 ≤ 7293034; omega⟩) hP hD hS (fun _ h => h) (fun r2 u2 H locs hm hP hD hS => ?_)
  have hP : va_P (dC, dI) vwCl (lw k b P u D b2 u2 D2 ob o od q) H := by rw [lw_M]; exact hP
  have hD : va_D (fun q : Nat => s.heap.size ≤ q) (lw k b P u D b2 u2 D2 ob o od q) := by rw [lw_M]; exact hD
  obtain ⟨hm, hmr⟩ := hm
  refine rw_i (y := nI ns) (hmr.trans hS9.2.2.1) ?_
  refine lv_pop hx hb dlaw_296 rfl ?_
  refine lv_goto (tgt := 762) hx hb dlaw_297 (by decide) ?_
  have hrx : rx P u D u2 D2 := by rw [hm, hcu]; exact rx_cl R
  refine W.widen (k := cells + 1) (n := slots + 6) (by omega) (by omega) ?_
  exact K _ _ _ _ _ _ _ _ _ _ hrx hP hD hS (lv_sub hl [0, 1, 2, 3, 4, 5] rfl)
set_option maxHeartbeats 4000000 in
set_option maxRecDepth 100000 in
theorem ar_sample {p : Program} {e : Env} {s : State} {m : MethodId} {below : List Frame} {meth : Method} {c : Code} {Q : State → Prop} (l : Launch) {sb L : Nat} {xs : Nat → Int32} (t : Nat) (hL4 : 4 * t + 4 ≤ L) (hLb : L ≤ 2048) {dC : Nat → ClassId} {dI : Nat → Nat → Nat} {k : Nat → ClassId} (CX : la_cx p l s m c sb L xs dC dI k) {b b2 : Nat → Nat} {P : Nat → Nat} {I I2 : Nat → Nat → Int32} {D D2 : Nat → Nat → UInt64} {ob od : Nat} {o : Nat → Int64} {q : Nat → UInt64} (RX : rx P I D I2 D2) {H : Heap} {locs : List Loc} {ls : Array Slot} {cells slots : Nat} (hcc : cells + 1 ≤ 601024) (hss : slots + 6 ≤ 7293034) (hP : va_P (dC, dI) vwCl (lw k b P I D b2 I2 D2 ob o od q) H) (hD : va_D (fun q : Nat => s.heap.size ≤ q) (lw k b P I D b2 I2 D2 ob o od q)) (hS : va_S (fun q : Nat => s.heap.size ≤ q) s.heap H locs) (hl : lv_has ls 9 [(5, .int (nI (4 * t))), (4, .ref od), (3, .ref ob), (2, .ref (b2 0)), (1, .ref (b 0)), (0, .ref sb)]) (K : ∀ (P : Nat → Nat) (I : Nat → Nat → Int32) (D : Nat → Nat → UInt64) (I2 : Nat → Nat → Int32) (D2 : Nat → Nat → UInt64) (o : Nat → Int64) (q : Nat → UInt64) (H : Heap) (locs : List Loc) (ls : Array Slot), rx P I D I2 D2 → va_P (dC, dI) vwCl (lw k b P I D b2 I2 D2 ob o od q) H → va_D (fun q : Nat => s.heap.size ≤ q) (lw k b P I D b2 I2 D2 ob o od q) → va_S (fun q : Nat => s.heap.size ≤ q) s.heap H locs → lv_has ls 9 [(5, .int (nI (4 * t))), (4, .ref od), (3, .ref ob), (2, .ref (b2 0)), (1, .ref (b 0)), (0, .ref sb)] → W p l e room_1 s m #[Value.ref sb] below meth c H locs (cells + 1) (slots + 6) Q (F0 m 762 ls [])) : W p l e room_1 s m #[Value.ref sb] below meth c H locs cells slots Q (F0 m 300 ls []) := by
  obtain ⟨hx, hb, hml, hown, hts, hX, hbl, hK, hE, hln⟩ := CX
  obtain ⟨n, oc, ns, gp, np, rw9, nw, jd9, R⟩ := RX
  obtain ⟨hF9, hS9, hM9, hP9, hW9, hJ9, hT9⟩ := id R
  have hs2 : ∀ i, i < ns → fb_ 1057 (D2 1 i) := fun i hi => by rw [hS9.2.2.2.2 i hi]; exact hS9.2.2.2.1 i hi
  have hr2 : ∀ j, j < np → I2 3 j = nI (rw9 j) ∧ 1 ≤ rw9 j ∧ rw9 j ≤ 8 := fun j hj => ⟨hP9.2.2.2.2.2.2.2.1 j hj, (hP9.2.2.2.2.2.2.1 j hj).2⟩
  have hl2 : ∀ j, j < np → ∀ q, q < 4 * rw9 j → fb_ 1155 (D2 2 (32 * j + q)) := fun j hj q hq => by rw [hP9.2.2.2.2.2.2.2.2.2 j hj q hq]; exact hP9.2.2.2.2.2.2.2.2.1 j hj q hq
  refine lv_aload_n hx hb dlaw_300 rfl (lv_at hl 4 rfl) ?_
  refine lv_aload_n hx hb dlaw_301 rfl (lv_at hl 5 rfl) ?_
  refine lv_iload hx hb dlaw_302 (lv_at hl 0 rfl) ?_
  refine lv_iconst (v := nI 1) hx hb dlaw_304 (by decide +kernel) ?_
  refine lv_iadd hx hb dlaw_305 ?_
  refine rw_i (y := nI (4 * t + 1)) (nI_add _ _) ?_
  refine rw_sld (k := (4 * t + 1)) hx hb hX hbl (Nat.not_le.mpr hbl) hS (by omega) (by omega) dlaw_306 ?_
  refine lv_aload hx hb dlaw_307 (lv_at hl 1 rfl) ?_
  have hP : va_P (dC, dI) vwCl ([(ob, .inl (k 4, 1, .inr (.inl o)))] ++ ((wd k b P I D ++ [(od, .inl (k 1, 1, wd_d q))]) ++ wm k b2 I2 D2)) H := by rw [← lw_D]; exact hP
  have hD : va_D (fun q : Nat => s.heap.size ≤ q) ([(ob, .inl (k 4, 1, .inr (.inl o)))] ++ ((wd k b P I D ++ [(od, .inl (k 1, 1, wd_d q))]) ++ wm k b2 I2 D2)) := by rw [← lw_D]; exact hD
  refine sg_i (sw_runS (ws' := []) (n := 3) (As := [.ref (b 0), .int (xs (4 * t + 1)), .ref od]) (rest := []) ⟨hx, hb, hml, hown, hts⟩ (hLa_sample l hln dC dI k b P I D _ od q (xs (4 * t + 1)) ns hS9.1 hS9.2.1) rfl rfl (Nat.le_of_ble_eq_true rfl) (Nat.le_of_ble_eq_true rfl) tw_433 tw_432 tw_0 tw_431 (by decide +kernel) ⟨ct_blind (ev := ev_L) ev_L.blind, ct_now (A := (fun q : Nat => s.heap.size ≤ q)) (ev := ev_L) (fun U hU hW9 => hE.to hW9 (st_law hS hU)) (sg_Pc hP) hK (sg_Dc hD)⟩ rfl rfl hl.1 rfl (lv_room (Nat.le_of_ble_eq_true rfl)) dlaw_309 ⟨hcc, hss⟩) hP hD hS (fun _ h => h) (fun r u H locs hc hP hD hS => ?_)
  have hP : va_P (dC, dI) vwCl (lw k b P u.2 D b2 I2 D2 ob o od u.1) H := by rw [lw_D]; exact hP
  have hD : va_D (fun q : Nat => s.heap.size ≤ q) (lw k b P u.2 D b2 I2 D2 ob o od u.1) := by rw [lw_D]; exact hD
  refine lv_istore (lv' := [(6, .int r), (5, .int (nI (4 * t))), (4, .ref od), (3, .ref ob), (2, .ref (b2 0)), (1, .ref (b 0)), (0, .ref sb)]) hx hb dlaw_312 hl (by decide) rfl (fun ls hl => ?_)
  refine lv_aload_n hx hb dlaw_314 rfl (lv_at hl 4 rfl) ?_
  refine lv_aload_n hx hb dlaw_315 rfl (lv_at hl 6 rfl) ?_
  refine lv_iload hx hb dlaw_316 (lv_at hl 1 rfl) ?_
  refine lv_iconst (v := nI 1) hx hb dlaw_318 (by decide +kernel) ?_
  refine lv_iadd hx hb dlaw_319 ?_
  refine rw_i (y := nI (4 * t + 1)) (nI_add _ _) ?_
  refine rw_sld (k := (4 * t + 1)) hx hb hX hbl (Nat.not_le.mpr hbl) hS (by omega) (by omega) dlaw_320 ?_
  have hP : va_P (dC, dI) vwCl (([(ob, .inl (k 4, 1, .inr (.inl o)))] ++ (wd k b P u.2 D ++ [(od, .inl (k 1, 1, wd_d u.1))])) ++ (wm k b2 I2 D2 ++ [])) H := by rw [← lw_M]; exact hP
  have hD : va_D (fun q : Nat => s.heap.size ≤ q) (([(ob, .inl (k 4, 1, .inr (.inl o)))] ++ (wd k b P u.2 D ++ [(od, .inl (k 1, 1, wd_d u.1))])) ++ (wm k b2 I2 D2 ++ [])) := by rw [← lw_M]; exact hD
  refine sg_d (va_runV (As := [.int (xs (4 * t + 1))]) (rest := []) ⟨hx, hb, hml, hown, hts⟩ (kMo_sample l dC dI k b2 I2 D2 _ (xs (4 * t + 1)) ns hS9.1 hS9.2.2.1) (cwV 1 hts (gw_V tw_786 tw_787 tw_788 tw_9 tw_789) rfl rfl rfl (by decide +kernel) ⟨Nat.le_of_ble_eq_true rfl, Nat.le_of_ble_eq_true rfl⟩) ⟨ct_blind (ev := fun _ => True) (fun _ _ _ _ h => h), va_recv hK (sg_Pc hP) (ci := 8) (q0 := 0) rfl rfl, ct_now (A := (fun q : Nat => s.heap.size ≤ q)) (ev := fun _ => True) (fun _ _ _ => trivial) (sg_Pc hP) (hK.sub (tys' := mo_ty k) [0, 1] rfl) (sg_Dc hD)⟩ rfl rfl hl.1 rfl (lv_room (Nat.le_of_ble_eq_true rfl)) dlaw_321 ⟨hcc, hss⟩) hP hD hS (fun _ h => h) (fun r2 u2 H locs hm hP hD hS => ?_)
  have hP : va_P (dC, dI) vwCl (lw k b P u.2 D b2 u2 D2 ob o od u.1) H := by rw [lw_M]; exact hP
  have hD : va_D (fun q : Nat => s.heap.size ≤ q) (lw k b P u.2 D b2 u2 D2 ob o od u.1) := by rw [lw_M]; exact hD
  refine lv_dstore (lv' := [(7, .double r2), (6, .int r), (5, .int (nI (4 * t))), (4, .ref od), (3, .ref ob), (2, .ref (b2 0)), (1, .ref (b 0)), (0, .ref sb)]) hx hb dlaw_324 hl (by decide) rfl (fun ls hl => ?_)
  refine lv_goto (tgt := 762) hx hb dlaw_326 (by decide) ?_
  have hag := ag_sample R (xs (4 * t + 1)) hc hm
  exact K _ _ _ _ _ _ _ _ _ _ hag.2.2 hP hD hS (lv_sub hl [2, 3, 4, 5, 6, 7] rfl)
set_option maxHeartbeats 4000000 in
set_option maxRecDepth 100000 in
theorem ar_power {p : Program} {e : Env} {s : State} {m : MethodId} {below : List Frame} {meth : Method} {c : Code} {Q : State → Prop} (l : Launch) {sb L : Nat} {xs : Nat → Int32} (t : Nat) (hL4 : 4 * t + 4 ≤ L) (hLb : L ≤ 2048) {dC : Nat → ClassId} {dI : Nat → Nat → Nat} {k : Nat → ClassId} (CX : la_cx p l s m c sb L xs dC dI k) {b b2 : Nat → Nat} {P : Nat → Nat} {I I2 : Nat → Nat → Int32} {D D2 : Nat → Nat → UInt64} {ob od : Nat} {o : Nat → Int64} {q : Nat → UInt64} (RX : rx P I D I2 D2) {H : Heap} {locs : List Loc} {ls : Array Slot} {cells slots : Nat} (hcc : cells + 1 ≤ 601024) (hss : slots + 6 ≤ 7293034) (hP : va_P (dC, dI) vwCl (lw k b P I D b2 I2 D2 ob o od q) H) (hD : va_D (fun q : Nat => s.heap.size ≤ q) (lw k b P I D b2 I2 D2 ob o od q)) (hS : va_S (fun q : Nat => s.heap.size ≤ q) s.heap H locs) (hl : lv_has ls 9 [(5, .int (nI (4 * t))), (4, .ref od), (3, .ref ob), (2, .ref (b2 0)), (1, .ref (b 0)), (0, .ref sb)]) (K : ∀ (P : Nat → Nat) (I : Nat → Nat → Int32) (D : Nat → Nat → UInt64) (I2 : Nat → Nat → Int32) (D2 : Nat → Nat → UInt64) (o : Nat → Int64) (q : Nat → UInt64) (H : Heap) (locs : List Loc) (ls : Array Slot), rx P I D I2 D2 → va_P (dC, dI) vwCl (lw k b P I D b2 I2 D2 ob o od q) H → va_D (fun q : Nat => s.heap.size ≤ q) (lw k b P I D b2 I2 D2 ob o od q) → va_S (fun q : Nat => s.heap.size ≤ q) s.heap H locs → lv_has ls 9 [(5, .int (nI (4 * t))), (4, .ref od), (3, .ref ob), (2, .ref (b2 0)), (1, .ref (b 0)), (0, .ref sb)] → W p l e room_1 s m #[Value.ref sb] below meth c H locs (cells + 1) (slots + 6) Q (F0 m 762 ls [])) : W p l e room_1 s m #[Value.ref sb] below meth c H locs cells slots Q (F0 m 329 ls []) := by
  obtain ⟨hx, hb, hml, hown, hts, hX, hbl, hK, hE, hln⟩ := CX
  obtain ⟨n, oc, ns, gp, np, rw9, nw, jd9, R⟩ := RX
  obtain ⟨hF9, hS9, hM9, hP9, hW9, hJ9, hT9⟩ := id R
  have hs2 : ∀ i, i < ns → fb_ 1057 (D2 1 i) := fun i hi => by rw [hS9.2.2.2.2 i hi]; exact hS9.2.2.2.1 i hi
  have hr2 : ∀ j, j < np → I2 3 j = nI (rw9 j) ∧ 1 ≤ rw9 j ∧ rw9 j ≤ 8 := fun j hj => ⟨hP9.2.2.2.2.2.2.2.1 j hj, (hP9.2.2.2.2.2.2.1 j hj).2⟩
  have hl2 : ∀ j, j < np → ∀ q, q < 4 * rw9 j → fb_ 1155 (D2 2 (32 * j + q)) := fun j hj q hq => by rw [hP9.2.2.2.2.2.2.2.2.2 j hj q hq]; exact hP9.2.2.2.2.2.2.2.2.1 j hj q hq
  refine lv_aload_n hx hb dlaw_329 rfl (lv_at hl 4 rfl) ?_
  refine lv_aload_n hx hb dlaw_330 rfl (lv_at hl 5 rfl) ?_
  refine lv_iload hx hb dlaw_331 (lv_at hl 0 rfl) ?_
  refine lv_iconst (v := nI 1) hx hb dlaw_333 (by decide +kernel) ?_
  refine lv_iadd hx hb dlaw_334 ?_
  refine rw_i (y := nI (4 * t + 1)) (nI_add _ _) ?_
  refine rw_sld (k := (4 * t + 1)) hx hb hX hbl (Nat.not_le.mpr hbl) hS (by omega) (by omega) dlaw_335 ?_
  refine lv_aload_n hx hb dlaw_336 rfl (lv_at hl 5 rfl) ?_
  refine lv_iload hx hb dlaw_337 (lv_at hl 0 rfl) ?_
  refine lv_iconst (v := nI 2) hx hb dlaw_339 (by decide +kernel) ?_
  refine lv_iadd hx hb dlaw_340 ?_
  refine rw_i (y := nI (4 * t + 2)) (nI_add _ _) ?_
  refine rw_sld (k := (4 * t + 2)) hx hb hX hbl (Nat.not_le.mpr hbl) hS (by omega) (by omega) dlaw_341 ?_
  refine lv_aload hx hb dlaw_342 (lv_at hl 1 rfl) ?_
  have hP : va_P (dC, dI) vwCl ([(ob, .inl (k 4, 1, .inr (.inl o)))] ++ ((wd k b P I D ++ [(od, .inl (k 1, 1, wd_d q))]) ++ wm k b2 I2 D2)) H := by rw [← lw_D]; exact hP
  have hD : va_D (fun q : Nat => s.heap.size ≤ q) ([(ob, .inl (k 4, 1, .inr (.inl o)))] ++ ((wd k b P I D ++ [(od, .inl (k 1, 1, wd_d q))]) ++ wm k b2 I2 D2)) := by rw [← lw_D]; exact hD
  refine sg_i (sw_runS (ws' := []) (n := 4) (As := [.ref (b 0), .int (xs (4 * t + 1)), .int (xs (4 * t + 2)), .ref od]) (rest := []) ⟨hx, hb, hml, hown, hts⟩ (hLa_power l hln dC dI k b P I D _ od q (xs (4 * t + 1)) (xs (4 * t + 2)) ns hS9.1 hS9.2.1 hS9.2.2.2.1 hT9.1 hT9.2.1 hT9.2.2.1) rfl rfl (Nat.le_of_ble_eq_true rfl) (Nat.le_of_ble_eq_true rfl) tw_441 tw_440 tw_0 tw_439 (by decide +kernel) ⟨ct_blind (ev := ev_L) ev_L.blind, ct_now (A := (fun q : Nat => s.heap.size ≤ q)) (ev := ev_L) (fun U hU hW9 => hE.to hW9 (st_law hS hU)) (sg_Pc hP) hK (sg_Dc hD)⟩ rfl rfl hl.1 rfl (lv_room (Nat.le_of_ble_eq_true rfl)) dlaw_344 ⟨hcc, hss⟩) hP hD hS (fun _ h => h) (fun r u H locs hc hP hD hS => ?_)
  have hP : va_P (dC, dI) vwCl (lw k b P I (us D 2 u.2) b2 I2 D2 ob o od u.1) H := by rw [lw_D]; exact hP
  have hD : va_D (fun q : Nat => s.heap.size ≤ q) (lw k b P I (us D 2 u.2) b2 I2 D2 ob o od u.1) := by rw [lw_D]; exact hD
  refine lv_istore (lv' := [(6, .int r), (5, .int (nI (4 * t))), (4, .ref od), (3, .ref ob), (2, .ref (b2 0)), (1, .ref (b 0)), (0, .ref sb)]) hx hb dlaw_347 hl (by decide) rfl (fun ls hl => ?_)
  refine lv_aload_n hx hb dlaw_349 rfl (lv_at hl 4 rfl) ?_
  refine lv_aload_n hx hb dlaw_350 rfl (lv_at hl 6 rfl) ?_
  refine lv_iload hx hb dlaw_351 (lv_at hl 1 rfl) ?_
  refine lv_iconst (v := nI 1) hx hb dlaw_353 (by decide +kernel) ?_
  refine lv_iadd hx hb dlaw_354 ?_
  refine rw_i (y := nI (4 * t + 1)) (nI_add _ _) ?_
  refine rw_sld (k := (4 * t + 1)) hx hb hX hbl (Nat.not_le.mpr hbl) hS (by omega) (by omega) dlaw_355 ?_
  refine lv_aload_n hx hb dlaw_356 rfl (lv_at hl 6 rfl) ?_
  refine lv_iload hx hb dlaw_357 (lv_at hl 1 rfl) ?_
  refine lv_iconst (v := nI 2) hx hb dlaw_359 (by decide +kernel) ?_
  refine lv_iadd hx hb dlaw_360 ?_
  refine rw_i (y := nI (4 * t + 2)) (nI_add _ _) ?_
  refine rw_sld (k := (4 * t + 2)) hx hb hX hbl (Nat.not_le.mpr hbl) hS (by omega) (by omega) dlaw_361 ?_
  have hP : va_P (dC, dI) vwCl (([(ob, .inl (k 4, 1, .inr (.inl o)))] ++ (wd k b P I (us D 2 u.2) ++ [(od, .inl (k 1, 1, wd_d u.1))])) ++ (wm k b2 I2 D2 ++ [])) H := by rw [← lw_M]; exact hP
  have hD : va_D (fun q : Nat => s.heap.size ≤ q) (([(ob, .inl (k 4, 1, .inr (.inl o)))] ++ (wd k b P I (us D 2 u.2) ++ [(od, .inl (k 1, 1, wd_d u.1))])) ++ (wm k b2 I2 D2 ++ [])) := by rw [← lw_M]; exact hD
  refine sg_d (va_runV (As := [.int (xs (4 * t + 1)), .int (xs (4 * t + 2))]) (rest := []) ⟨hx, hb, hml, hown, hts⟩ (kMo_power l dC dI k b2 I2 D2 _ (xs (4 * t + 1)) (xs (4 * t + 2)) ns hS9.1 hS9.2.2.1 hs2 hT9.2.2.2.1 hT9.2.2.2.2) (cwV 2 hts (gw_V tw_790 tw_791 tw_792 tw_9 tw_793) rfl rfl rfl (by decide +kernel) ⟨Nat.le_of_ble_eq_true rfl, Nat.le_of_ble_eq_true rfl⟩) ⟨ct_blind (ev := fun _ => True) (fun _ _ _ _ h => h), va_recv hK (sg_Pc hP) (ci := 8) (q0 := 0) rfl rfl, ct_now (A := (fun q : Nat => s.heap.size ≤ q)) (ev := fun _ => True) (fun _ _ _ => trivial) (sg_Pc hP) (hK.sub (tys' := mo_ty k) [0, 1] rfl) (sg_Dc hD)⟩ rfl rfl hl.1 rfl (lv_room (Nat.le_of_ble_eq_true rfl)) dlaw_362 ⟨hcc, hss⟩) hP hD hS (fun _ h => h) (fun r2 u2 H locs hm hP hD hS => ?_)
  have hP : va_P (dC, dI) vwCl (lw k b P I (us D 2 u.2) b2 u2 D2 ob o od u.1) H := by rw [lw_M]; exact hP
  have hD : va_D (fun q : Nat => s.heap.size ≤ q) (lw k b P I (us D 2 u.2) b2 u2 D2 ob o od u.1) := by rw [lw_M]; exact hD
  refine lv_dstore (lv' := [(7, .double r2), (6, .int r), (5, .int (nI (4 * t))), (4, .ref od), (3, .ref ob), (2, .ref (b2 0)), (1, .ref (b 0)), (0, .ref sb)]) hx hb dlaw_365 hl (by decide) rfl (fun ls hl => ?_)
  refine lv_goto (tgt := 762) hx hb dlaw_367 (by decide) ?_
  have hag := ag_power R (xs (4 * t + 1)) (xs (4 * t + 2)) hc hm
  exact K _ _ _ _ _ _ _ _ _ _ hag.2.2 hP hD hS (lv_sub hl [2, 3, 4, 5, 6, 7] rfl)
set_option maxHeartbeats 4000000 in
set_option maxRecDepth 100000 in
theorem ar_level {p : Program} {e : Env} {s : State} {m : MethodId} {below : List Frame} {meth : Method} {c : Code} {Q : State → Prop} (l : Launch) {sb L : Nat} {xs : Nat → Int32} (t : Nat) (hL4 : 4 * t + 4 ≤ L) (hLb : L ≤ 2048) {dC : Nat → ClassId} {dI : Nat → Nat → Nat} {k : Nat → ClassId} (CX : la_cx p l s m c sb L xs dC dI k) {b b2 : Nat → Nat} {P : Nat → Nat} {I I2 : Nat → Nat → Int32} {D D2 : Nat → Nat → UInt64} {ob od : Nat} {o : Nat → Int64} {q : Nat → UInt64} (RX : rx P I D I2 D2) {H : Heap} {locs : List Loc} {ls : Array Slot} {cells slots : Nat} (hcc : cells + 1 ≤ 601024) (hss : slots + 6 ≤ 7293034) (hP : va_P (dC, dI) vwCl (lw k b P I D b2 I2 D2 ob o od q) H) (hD : va_D (fun q : Nat => s.heap.size ≤ q) (lw k b P I D b2 I2 D2 ob o od q)) (hS : va_S (fun q : Nat => s.heap.size ≤ q) s.heap H locs) (hl : lv_has ls 9 [(5, .int (nI (4 * t))), (4, .ref od), (3, .ref ob), (2, .ref (b2 0)), (1, .ref (b 0)), (0, .ref sb)]) (K : ∀ (P : Nat → Nat) (I : Nat → Nat → Int32) (D : Nat → Nat → UInt64) (I2 : Nat → Nat → Int32) (D2 : Nat → Nat → UInt64) (o : Nat → Int64) (q : Nat → UInt64) (H : Heap) (locs : List Loc) (ls : Array Slot), rx P I D I2 D2 → va_P (dC, dI) vwCl (lw k b P I D b2 I2 D2 ob o od q) H → va_D (fun q : Nat => s.heap.size ≤ q) (lw k b P I D b2 I2 D2 ob o od q) → va_S (fun q : Nat => s.heap.size ≤ q) s.heap H locs → lv_has ls 9 [(5, .int (nI (4 * t))), (4, .ref od), (3, .ref ob), (2, .ref (b2 0)), (1, .ref (b 0)), (0, .ref sb)] → W p l e room_1 s m #[Value.ref sb] below meth c H locs (cells + 1) (slots + 6) Q (F0 m 762 ls [])) : W p l e room_1 s m #[Value.ref sb] below meth c H locs cells slots Q (F0 m 370 ls []) := by
  obtain ⟨hx, hb, hml, hown, hts, hX, hbl, hK, hE, hln⟩ := CX
  obtain ⟨n, oc, ns, gp, np, rw9, nw, jd9, R⟩ := RX
  obtain ⟨hF9, hS9, hM9, hP9, hW9, hJ9, hT9⟩ := id R
  have hs2 : ∀ i, i < ns → fb_ 1057 (D2 1 i) := fun i hi => by rw [hS9.2.2.2.2 i hi]; exact hS9.2.2.2.1 i hi
  have hr2 : ∀ j, j < np → I2 3 j = nI (rw9 j) ∧ 1 ≤ rw9 j ∧ rw9 j ≤ 8 := fun j hj => ⟨hP9.2.2.2.2.2.2.2.1 j hj, (hP9.2.2.2.2.2.2.1 j hj).2⟩
  have hl2 : ∀ j, j < np → ∀ q, q < 4 * rw9 j → fb_ 1155 (D2 2 (32 * j + q)) := fun j hj q hq => by rw [hP9.2.2.2.2.2.2.2.2.2 j hj q hq]; exact hP9.2.2.2.2.2.2.2.2.1 j hj q hq
  refine lv_aload_n hx hb dlaw_370 rfl (lv_at hl 4 rfl) ?_
  refine lv_aload_n hx hb dlaw_371 rfl (lv_at hl 5 rfl) ?_
  refine lv_iload hx hb dlaw_372 (lv_at hl 0 rfl) ?_
  refine lv_iconst (v := nI 1) hx hb dlaw_374 (by decide +kernel) ?_
  refine lv_iadd hx hb dlaw_375 ?_
  refine rw_i (y := nI (4 * t + 1)) (nI_add _ _) ?_
  refine rw_sld (k := (4 * t + 1)) hx hb hX hbl (Nat.not_le.mpr hbl) hS (by omega) (by omega) dlaw_376 ?_
  refine lv_aload_n hx hb dlaw_377 rfl (lv_at hl 5 rfl) ?_
  refine lv_iload hx hb dlaw_378 (lv_at hl 0 rfl) ?_
  refine lv_iconst (v := nI 2) hx hb dlaw_380 (by decide +kernel) ?_
  refine lv_iadd hx hb dlaw_381 ?_
  refine rw_i (y := nI (4 * t + 2)) (nI_add _ _) ?_
  refine rw_sld (k := (4 * t + 2)) hx hb hX hbl (Nat.not_le.mpr hbl) hS (by omega) (by omega) dlaw_382 ?_
  refine lv_aload hx hb dlaw_383 (lv_at hl 1 rfl) ?_
  have hP : va_P (dC, dI) vwCl ([(ob, .inl (k 4, 1, .inr (.inl o)))] ++ ((wd k b P I D ++ [(od, .inl (k 1, 1, wd_d q))]) ++ wm k b2 I2 D2)) H := by rw [← lw_D]; exact hP
  have hD : va_D (fun q : Nat => s.heap.size ≤ q) ([(ob, .inl (k 4, 1, .inr (.inl o)))] ++ ((wd k b P I D ++ [(od, .inl (k 1, 1, wd_d q))]) ++ wm k b2 I2 D2)) := by rw [← lw_D]; exact hD
  refine sg_i (sw_runS (ws' := []) (n := 4) (As := [.ref (b 0), .int (xs (4 * t + 1)), .int (xs (4 * t + 2)), .ref od]) (rest := []) ⟨hx, hb, hml, hown, hts⟩ (hLa_level l hln dC dI k b P I D _ od q (xs (4 * t + 1)) (xs (4 * t + 2)) ns hS9.1 hS9.2.1 hS9.2.2.2.1 hT9.1 hT9.2.1 hT9.2.2.1 jd9 hJ9.1 hJ9.2.1 hJ9.2.2.1 hJ9.2.2.2) rfl rfl (Nat.le_of_ble_eq_true rfl) (Nat.le_of_ble_eq_true rfl) tw_463 tw_462 tw_0 tw_461 (by decide +kernel) ⟨ct_blind (ev := ev_L) ev_L.blind, ct_now (A := (fun q : Nat => s.heap.size ≤ q)) (ev := ev_L) (fun U hU hW9 => hE.to hW9 (st_law hS hU)) (sg_Pc hP) hK (sg_Dc hD)⟩ rfl rfl hl.1 rfl (lv_room (Nat.le_of_ble_eq_true rfl)) dlaw_385 ⟨hcc, hss⟩) hP hD hS (fun _ h => h) (fun r u H locs hc hP hD hS => ?_)
  have hP : va_P (dC, dI) vwCl (lw k b P u.2.1 u.2.2 b2 I2 D2 ob o od u.1) H := by rw [lw_D]; exact hP
  have hD : va_D (fun q : Nat => s.heap.size ≤ q) (lw k b P u.2.1 u.2.2 b2 I2 D2 ob o od u.1) := by rw [lw_D]; exact hD
  refine lv_istore (lv' := [(6, .int r), (5, .int (nI (4 * t))), (4, .ref od), (3, .ref ob), (2, .ref (b2 0)), (1, .ref (b 0)), (0, .ref sb)]) hx hb dlaw_388 hl (by decide) rfl (fun ls hl => ?_)
  refine lv_aload_n hx hb dlaw_390 rfl (lv_at hl 4 rfl) ?_
  refine lv_aload_n hx hb dlaw_391 rfl (lv_at hl 6 rfl) ?_
  refine lv_iload hx hb dlaw_392 (lv_at hl 1 rfl) ?_
  refine lv_iconst (v := nI 1) hx hb dlaw_394 (by decide +kernel) ?_
  refine lv_iadd hx hb dlaw_395 ?_
  refine rw_i (y := nI (4 * t + 1)) (nI_add _ _) ?_
  refine rw_sld (k := (4 * t + 1)) hx hb hX hbl (Nat.not_le.mpr hbl) hS (by omega) (by omega) dlaw_396 ?_
  refine lv_aload_n hx hb dlaw_397 rfl (lv_at hl 6 rfl) ?_
  refine lv_iload hx hb dlaw_398 (lv_at hl 1 rfl) ?_
  refine lv_iconst (v := nI 2) hx hb dlaw_400 (by decide +kernel) ?_
  refine lv_iadd hx hb dlaw_401 ?_
  refine rw_i (y := nI (4 * t + 2)) (nI_add _ _) ?_
  refine rw_sld (k := (4 * t + 2)) hx hb hX hbl (Nat.not_le.mpr hbl) hS (by omega) (by omega) dlaw_402 ?_
  have hP : va_P (dC, dI) vwCl (([(ob, .inl (k 4, 1, .inr (.inl o)))] ++ (wd k b P u.2.1 u.2.2 ++ [(od, .inl (k 1, 1, wd_d u.1))])) ++ (wm k b2 I2 D2 ++ [])) H := by rw [← lw_M]; exact hP
  have hD : va_D (fun q : Nat => s.heap.size ≤ q) (([(ob, .inl (k 4, 1, .inr (.inl o)))] ++ (wd k b P u.2.1 u.2.2 ++ [(od, .inl (k 1, 1, wd_d u.1))])) ++ (wm k b2 I2 D2 ++ [])) := by rw [← lw_M]; exact hD
  refine sg_d (va_runV (As := [.int (xs (4 * t + 1)), .int (xs (4 * t + 2))]) (rest := []) ⟨hx, hb, hml, hown, hts⟩ (kMo_level l dC dI k b2 I2 D2 _ (xs (4 * t + 1)) (xs (4 * t + 2)) ns hS9.1 hS9.2.2.1 hs2 hT9.2.2.2.1 hT9.2.2.2.2) (cwV 2 hts (gw_V tw_803 tw_804 tw_805 tw_9 tw_806) rfl rfl rfl (by decide +kernel) ⟨Nat.le_of_ble_eq_true rfl, Nat.le_of_ble_eq_true rfl⟩) ⟨ct_blind (ev := fun _ => True) (fun _ _ _ _ h => h), va_recv hK (sg_Pc hP) (ci := 8) (q0 := 0) rfl rfl, ct_now (A := (fun q : Nat => s.heap.size ≤ q)) (ev := fun _ => True) (fun _ _ _ => trivial) (sg_Pc hP) (hK.sub (tys' := mo_ty k) [0, 1] rfl) (sg_Dc hD)⟩ rfl rfl hl.1 rfl (lv_room (Nat.le_of_ble_eq_true rfl)) dlaw_403 ⟨hcc, hss⟩) hP hD hS (fun _ h => h) (fun r2 u2 H locs hm hP hD hS => ?_)
  have hP : va_P (dC, dI) vwCl (lw k b P u.2.1 u.2.2 b2 u2 D2 ob o od u.1) H := by rw [lw_M]; exact hP
  have hD : va_D (fun q : Nat => s.heap.size ≤ q) (lw k b P u.2.1 u.2.2 b2 u2 D2 ob o od u.1) := by rw [lw_M]; exact hD
  refine lv_dstore (lv' := [(7, .double r2), (6, .int r), (5, .int (nI (4 * t))), (4, .ref od), (3, .ref ob), (2, .ref (b2 0)), (1, .ref (b 0)), (0, .ref sb)]) hx hb dlaw_406 hl (by decide) rfl (fun ls hl => ?_)
  refine lv_aload_n hx hb dlaw_408 rfl (lv_at hl 5 rfl) ?_
  have hP : va_P (dC, dI) vwCl (([(ob, .inl (k 4, 1, .inr (.inl o)))] ++ (wd k b P u.2.1 u.2.2 ++ [(od, .inl (k 1, 1, wd_d u.1))])) ++ (wm k b2 u2 D2 ++ [])) H := by rw [← lw_M]; exact hP
  have hD : va_D (fun q : Nat => s.heap.size ≤ q) (([(ob, .inl (k 4, 1, .inr (.inl o)))] ++ (wd k b P u.2.1 u.2.2 ++ [(od, .inl (k 1, 1, wd_d u.1))])) ++ (wm k b2 u2 D2 ++ [])) := by rw [← lw_M]; exact hD
  refine sg_i (va_runV (As := []) (rest := []) ⟨hx, hb, hml, hown, hts⟩ (kMo_thrown l dC dI k b2 u2 D2 _ ) (cwV 0 hts (gw_V tw_729 tw_730 tw_731 tw_9 tw_732) rfl rfl rfl (by decide +kernel) ⟨Nat.le_of_ble_eq_true rfl, Nat.le_of_ble_eq_true rfl⟩) ⟨ct_blind (ev := fun _ => True) (fun _ _ _ _ h => h), va_recv hK (sg_Pc hP) (ci := 8) (q0 := 0) rfl rfl, ct_now (A := (fun q : Nat => s.heap.size ≤ q)) (ev := fun _ => True) (fun _ _ _ => trivial) (sg_Pc hP) (hK.sub (tys' := mo_ty k) [0, 1] rfl) (sg_Dc hD)⟩ rfl rfl hl.1 rfl (lv_room (Nat.le_of_ble_eq_true rfl)) dlaw_409 ⟨hcc, hss⟩) hP hD hS (fun _ h => h) (fun r3 u3 H locs ht hP hD hS => ?_)
  have hP : va_P (dC, dI) vwCl (lw k b P u.2.1 u.2.2 b2 u2 D2 ob o od u.1) H := by rw [lw_M]; exact hP
  have hD : va_D (fun q : Nat => s.heap.size ≤ q) (lw k b P u.2.1 u.2.2 b2 u2 D2 ob o od u.1) := by rw [lw_M]; exact hD
  subst ht
  have hag := ag_level R (xs (4 * t + 1)) (xs (4 * t + 2)) hc hm
  refine rw_i (y := r) hag.1 ?_
  refine lv_iload hx hb dlaw_412 (lv_at hl 1 rfl) ?_
  refine lv_icmp_eq (tgt := 419) hx hb dlaw_414 (by decide) (fun c414 => ?_) (fun c414 => ?_)
  · refine lv_iload hx hb dlaw_419 (lv_at hl 1 rfl) ?_
    refine lv_if_ne (tgt := 456) hx hb dlaw_421 (by decide) (fun c421 => ?_) (fun c421 => ?_)
    · refine lv_goto (tgt := 762) hx hb dlaw_456 (by decide) ?_
      exact K _ _ _ _ _ _ _ _ _ _ hag.2.2 hP hD hS (lv_sub hl [2, 3, 4, 5, 6, 7] rfl)
    · have hz := hag.2.1 (show r = nI 0 from c421)
      refine lv_aload hx hb dlaw_424 (lv_at hl 3 rfl) ?_
      refine lv_iconst (v := nI 0) hx hb dlaw_426 (by decide +kernel) ?_
      refine rw_ald_d (k := 0) hx hb hK hP 49 1 rfl rfl (by decide) (by decide) dlaw_427 ?_
      refine rw_d (y := r2) hz ?_
      refine lv_dload hx hb dlaw_428 (lv_at hl 0 rfl) ?_
      refine lv_dcmp hx hb dlaw_430 ?_
      refine lv_if_eq (tgt := 456) hx hb dlaw_431 (by decide) (fun c431 => ?_) (fun c431 => ?_)
      · refine lv_goto (tgt := 762) hx hb dlaw_456 (by decide) ?_
        exact K _ _ _ _ _ _ _ _ _ _ hag.2.2 hP hD hS (lv_sub hl [2, 3, 4, 5, 6, 7] rfl)
      · refine lv_aload hx hb dlaw_434 (lv_at hl 3 rfl) ?_
        refine lv_iconst (v := nI 0) hx hb dlaw_436 (by decide +kernel) ?_
        refine rw_ald_d (k := 0) hx hb hK hP 49 1 rfl rfl (by decide) (by decide) dlaw_437 ?_
        refine rw_d (y := r2) hz ?_
        refine lv_aload hx hb dlaw_438 (lv_at hl 3 rfl) ?_
        refine lv_iconst (v := nI 0) hx hb dlaw_440 (by decide +kernel) ?_
        refine rw_ald_d (k := 0) hx hb hK hP 49 1 rfl rfl (by decide) (by decide) dlaw_441 ?_
        refine rw_d (y := r2) hz ?_
        refine lv_dcmp hx hb dlaw_442 ?_
        refine lv_if_eq (tgt := 454) hx hb dlaw_443 (by decide) (fun c443 => ?_) (fun c443 => ?_)
        · exact absurd c443 c431
        · refine lv_dload hx hb dlaw_446 (lv_at hl 0 rfl) ?_
          refine lv_dload hx hb dlaw_448 (lv_at hl 0 rfl) ?_
          refine lv_dcmp hx hb dlaw_450 ?_
          refine lv_if_ne (tgt := 456) hx hb dlaw_451 (by decide) (fun c451 => ?_) (fun c451 => ?_)
          · refine lv_goto (tgt := 762) hx hb dlaw_456 (by decide) ?_
            exact K _ _ _ _ _ _ _ _ _ _ hag.2.2 hP hD hS (lv_sub hl [2, 3, 4, 5, 6, 7] rfl)
          · exact absurd c451 c431
  · exact absurd rfl c414
