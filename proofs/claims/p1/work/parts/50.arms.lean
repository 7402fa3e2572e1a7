set_option maxHeartbeats 4000000 in
set_option maxRecDepth 100000 in
theorem ar_octets {p : Program} {e : Env} {s : State} {m : MethodId} {below : List Frame} {meth : Method} {c : Code} {Q : State → Prop} (l : Launch) {sb L : Nat} {xs : Nat → Int32} (hL4 : 4 ≤ L) (hLb : L ≤ 2048) {dC : Nat → ClassId} {dI : Nat → Nat → Nat} {k : Nat → ClassId} (CX : la_cx p l s m c sb L xs dC dI k) {b b2 : Nat → Nat} {X D2 : Nat → Nat → UInt64} {ob od : Nat} {o : Nat → Int64} {q : Nat → UInt64} (FX : la_fx X D2) {H : Heap} {locs : List Loc} {ls : Array Slot} (hP : va_P (dC, dI) vwCl (lw k b (fun j => j) de_I0 (de_D0 X) b2 mo_I0 D2 ob o od q) H) (hD : va_D (fun q : Nat => s.heap.size ≤ q) (lw k b (fun j => j) de_I0 (de_D0 X) b2 mo_I0 D2 ob o od q)) (hS : va_S (fun q : Nat => s.heap.size ≤ q) s.heap H locs) (hl : lv_has ls 9 [(5, .int (nI 0)), (4, .ref od), (3, .ref ob), (2, .ref (b2 0)), (1, .ref (b 0)), (0, .ref sb)]) (K : ∀ (H : Heap) (locs : List Loc) (ls : Array Slot), va_S (fun q : Nat => s.heap.size ≤ q) s.heap H locs → lv_has ls 9 [(5, .int (nI 0)), (0, .ref sb)] → W p l e room_1 s m #[Value.ref sb] below meth c H locs 67 2920 Q (F0 m 1189 ls [])) : W p l e room_1 s m #[Value.ref sb] below meth c H locs 66 2914 Q (F0 m 124 ls []) := by
  obtain ⟨hx, hb, hml, hown, hts, hX, hbl, hK, hE, hln⟩ := CX
  obtain ⟨Wv, hW, eW⟩ := ln_of ((xs 2).toInt64 <<< ((nI 32).toInt64 &&& 63) ||| ((xs 3).toInt64 &&& lN 4294967295))
  refine lv_aload_n hx hb dlaw_124 rfl (lv_at hl 4 rfl) ?_
  refine lv_aload_n hx hb dlaw_125 rfl (lv_at hl 5 rfl) ?_
  refine lv_iload hx hb dlaw_126 (lv_at hl 0 rfl) ?_
  refine lv_iconst (v := nI 1) hx hb dlaw_128 (by decide +kernel) ?_
  refine lv_iadd hx hb dlaw_129 ?_
  refine rw_i (y := nI 1) rfl ?_
  refine rw_sld (k := 1) hx hb hX hbl (Nat.not_le.mpr hbl) hS (by omega) (by omega) dlaw_130 ?_
  refine lv_aload_n hx hb dlaw_131 rfl (lv_at hl 5 rfl) ?_
  refine lv_iload hx hb dlaw_132 (lv_at hl 0 rfl) ?_
  refine lv_iconst (v := nI 2) hx hb dlaw_134 (by decide +kernel) ?_
  refine lv_iadd hx hb dlaw_135 ?_
  refine rw_i (y := nI 2) rfl ?_
  refine rw_sld (k := 2) hx hb hX hbl (Nat.not_le.mpr hbl) hS (by omega) (by omega) dlaw_136 ?_
  refine lv_i2l (v := (xs 2).toInt64) hx hb dlaw_137 rfl ?_
  refine lv_bipush (v := nI 32) hx hb dlaw_138 (by decide +kernel) ?_
  refine lv_lshl (v := (xs 2).toInt64 <<< ((nI 32).toInt64 &&& 63)) hx hb dlaw_140 rfl ?_
  refine lv_aload_n hx hb dlaw_141 rfl (lv_at hl 5 rfl) ?_
  refine lv_iload hx hb dlaw_142 (lv_at hl 0 rfl) ?_
  refine lv_iconst (v := nI 3) hx hb dlaw_144 (by decide +kernel) ?_
  refine lv_iadd hx hb dlaw_145 ?_
  refine rw_i (y := nI 3) rfl ?_
  refine rw_sld (k := 3) hx hb hX hbl (Nat.not_le.mpr hbl) hS (by omega) (by omega) dlaw_146 ?_
  refine lv_i2l (v := (xs 3).toInt64) hx hb dlaw_147 rfl ?_
  refine lv_ldc2 (v := 4294967295) hx hb hown (hts _ tw_876) dlaw_148 ?_
  refine rw_l (y := lN 4294967295) (by decide +kernel) ?_
  refine lv_land hx hb dlaw_151 ?_
  refine lv_lor hx hb dlaw_152 ?_
  refine rw_l (y := lN Wv) eW ?_
  refine lv_aload_n hx hb dlaw_153 rfl (lv_at hl 2 rfl) ?_
  have hP : va_P (dC, dI) vwCl ([] ++ (((ob, .inl (k 4, 1, .inr (.inl o))) :: wd k b (fun j => j) de_I0 (de_D0 X)) ++ ([(od, .inl (k 1, 1, wd_d q))] ++ wm k b2 mo_I0 D2))) H := by rw [← lw_L]; exact hP
  have hD : va_D (fun q : Nat => s.heap.size ≤ q) ([] ++ (((ob, .inl (k 4, 1, .inr (.inl o))) :: wd k b (fun j => j) de_I0 (de_D0 X)) ++ ([(od, .inl (k 1, 1, wd_d q))] ++ wm k b2 mo_I0 D2))) := by rw [← lw_L]; exact hD
  refine sg_i (sw_runS (ws' := []) (n := 4) (As := [.ref (b 0), .int (xs 1), .long (lN Wv), .ref ob]) (rest := []) ⟨hx, hb, hml, hown, hts⟩ (kLa_octets l hln dC dI k b (fun j => j) de_I0 (de_D0 X) _ ob o (xs 1) Wv 0 hW (by decide) rfl) rfl rfl (Nat.le_of_ble_eq_true rfl) (Nat.le_of_ble_eq_true rfl) tw_241 tw_240 tw_0 tw_239 (by decide +kernel) ⟨ct_blind (ev := ev_L) ev_L.blind, ct_now (A := (fun q : Nat => s.heap.size ≤ q)) (ev := ev_L) (fun U hU hW9 => hE.to hW9 (st_law hS hU)) (sg_Pc hP) hK (sg_Dc hD)⟩ rfl rfl hl.1 rfl (lv_room (Nat.le_of_ble_eq_true rfl)) dlaw_154 ⟨Nat.le_of_ble_eq_true rfl, Nat.le_of_ble_eq_true rfl⟩) hP hD hS (fun _ h => h) (fun r u H locs hc hP hD hS => ?_)
  have hP : va_P (dC, dI) vwCl (lw k b (fun j => j) u.2 (de_D0 X) b2 mo_I0 D2 ob u.1 od q) H := by rw [lw_L]; exact hP
  have hD : va_D (fun q : Nat => s.heap.size ≤ q) (lw k b (fun j => j) u.2 (de_D0 X) b2 mo_I0 D2 ob u.1 od q) := by rw [lw_L]; exact hD
  refine lv_istore (lv' := [(6, .int r), (5, .int (nI 0)), (4, .ref od), (3, .ref ob), (2, .ref (b2 0)), (1, .ref (b 0)), (0, .ref sb)]) hx hb dlaw_157 hl (by decide) rfl (fun ls hl => ?_)
  refine lv_aload_n hx hb dlaw_159 rfl (lv_at hl 4 rfl) ?_
  refine lv_aload_n hx hb dlaw_160 rfl (lv_at hl 6 rfl) ?_
  refine lv_iload hx hb dlaw_161 (lv_at hl 1 rfl) ?_
  refine lv_iconst (v := nI 1) hx hb dlaw_163 (by decide +kernel) ?_
  refine lv_iadd hx hb dlaw_164 ?_
  refine rw_i (y := nI 1) rfl ?_
  refine rw_sld (k := 1) hx hb hX hbl (Nat.not_le.mpr hbl) hS (by omega) (by omega) dlaw_165 ?_
  refine lv_aload_n hx hb dlaw_166 rfl (lv_at hl 6 rfl) ?_
  refine lv_iload hx hb dlaw_167 (lv_at hl 1 rfl) ?_
  refine lv_iconst (v := nI 2) hx hb dlaw_169 (by decide +kernel) ?_
  refine lv_iadd hx hb dlaw_170 ?_
  refine rw_i (y := nI 2) rfl ?_
  refine rw_sld (k := 2) hx hb hX hbl (Nat.not_le.mpr hbl) hS (by omega) (by omega) dlaw_171 ?_
  refine lv_i2l (v := (xs 2).toInt64) hx hb dlaw_172 rfl ?_
  refine lv_bipush (v := nI 32) hx hb dlaw_173 (by decide +kernel) ?_
  refine lv_lshl (v := (xs 2).toInt64 <<< ((nI 32).toInt64 &&& 63)) hx hb dlaw_175 rfl ?_
  refine lv_aload_n hx hb dlaw_176 rfl (lv_at hl 6 rfl) ?_
  refine lv_iload hx hb dlaw_177 (lv_at hl 1 rfl) ?_
  refine lv_iconst (v := nI 3) hx hb dlaw_179 (by decide +kernel) ?_
  refine lv_iadd hx hb dlaw_180 ?_
  refine rw_i (y := nI 3) rfl ?_
  refine rw_sld (k := 3) hx hb hX hbl (Nat.not_le.mpr hbl) hS (by omega) (by omega) dlaw_181 ?_
  refine lv_i2l (v := (xs 3).toInt64) hx hb dlaw_182 rfl ?_
  refine lv_ldc2 (v := 4294967295) hx hb hown (hts _ tw_876) dlaw_183 ?_
  refine rw_l (y := lN 4294967295) (by decide +kernel) ?_
  refine lv_land hx hb dlaw_186 ?_
  refine lv_lor hx hb dlaw_187 ?_
  refine rw_l (y := lN Wv) eW ?_
  have hP : va_P (dC, dI) vwCl (([(ob, .inl (k 4, 1, .inr (.inl u.1)))] ++ (wd k b (fun j => j) u.2 (de_D0 X) ++ [(od, .inl (k 1, 1, wd_d q))])) ++ (wm k b2 mo_I0 D2 ++ [])) H := by rw [← lw_M]; exact hP
  have hD : va_D (fun q : Nat => s.heap.size ≤ q) (([(ob, .inl (k 4, 1, .inr (.inl u.1)))] ++ (wd k b (fun j => j) u.2 (de_D0 X) ++ [(od, .inl (k 1, 1, wd_d q))])) ++ (wm k b2 mo_I0 D2 ++ [])) := by rw [← lw_M]; exact hD
  refine sg_i (va_runV (As := [.int (xs 1), .long (lN Wv)]) (rest := []) ⟨hx, hb, hml, hown, hts⟩ (kMo_octets l dC dI k b2 mo_I0 D2 _ (xs 1) Wv 0 hW (by decide) rfl) (cwV 2 hts (gw_V tw_733 tw_734 tw_735 tw_9 tw_736) rfl rfl rfl (by decide +kernel) ⟨Nat.le_of_ble_eq_true rfl, Nat.le_of_ble_eq_true rfl⟩) ⟨ct_blind (ev := fun _ => True) (fun _ _ _ _ h => h), va_recv hK (sg_Pc hP) (ci := 8) (q0 := 0) rfl rfl, ct_now (A := (fun q : Nat => s.heap.size ≤ q)) (ev := fun _ => True) (fun _ _ _ => trivial) (sg_Pc hP) (hK.sub (tys' := mo_ty k) [0, 1] rfl) (sg_Dc hD)⟩ rfl rfl hl.1 rfl (lv_room (Nat.le_of_ble_eq_true rfl)) dlaw_188 ⟨Nat.le_of_ble_eq_true rfl, Nat.le_of_ble_eq_true rfl⟩) hP hD hS (fun _ h => h) (fun r2 u2 H locs hm hP hD hS => ?_)
  have hP : va_P (dC, dI) vwCl (lw k b (fun j => j) u.2 (de_D0 X) b2 u2 D2 ob u.1 od q) H := by rw [lw_M]; exact hP
  have hD : va_D (fun q : Nat => s.heap.size ≤ q) (lw k b (fun j => j) u.2 (de_D0 X) b2 u2 D2 ob u.1 od q) := by rw [lw_M]; exact hD
  refine lv_istore (lv' := [(7, .int r2), (6, .int r), (5, .int (nI 0)), (4, .ref od), (3, .ref ob), (2, .ref (b2 0)), (1, .ref (b 0)), (0, .ref sb)]) hx hb dlaw_191 hl (by decide) rfl (fun ls hl => ?_)
  refine lv_aload_n hx hb dlaw_193 rfl (lv_at hl 5 rfl) ?_
  have hP : va_P (dC, dI) vwCl (([(ob, .inl (k 4, 1, .inr (.inl u.1)))] ++ (wd k b (fun j => j) u.2 (de_D0 X) ++ [(od, .inl (k 1, 1, wd_d q))])) ++ (wm k b2 u2 D2 ++ [])) H := by rw [← lw_M]; exact hP
  have hD : va_D (fun q : Nat => s.heap.size ≤ q) (([(ob, .inl (k 4, 1, .inr (.inl u.1)))] ++ (wd k b (fun j => j) u.2 (de_D0 X) ++ [(od, .inl (k 1, 1, wd_d q))])) ++ (wm k b2 u2 D2 ++ [])) := by rw [← lw_M]; exact hD
  refine sg_i (va_runV (As := []) (rest := []) ⟨hx, hb, hml, hown, hts⟩ (kMo_thrown l dC dI k b2 u2 D2 _ ) (cwV 0 hts (gw_V tw_729 tw_730 tw_731 tw_9 tw_732) rfl rfl rfl (by decide +kernel) ⟨Nat.le_of_ble_eq_true rfl, Nat.le_of_ble_eq_true rfl⟩) ⟨ct_blind (ev := fun _ => True) (fun _ _ _ _ h => h), va_recv hK (sg_Pc hP) (ci := 8) (q0 := 0) rfl rfl, ct_now (A := (fun q : Nat => s.heap.size ≤ q)) (ev := fun _ => True) (fun _ _ _ => trivial) (sg_Pc hP) (hK.sub (tys' := mo_ty k) [0, 1] rfl) (sg_Dc hD)⟩ rfl rfl hl.1 rfl (lv_room (Nat.le_of_ble_eq_true rfl)) dlaw_194 ⟨Nat.le_of_ble_eq_true rfl, Nat.le_of_ble_eq_true rfl⟩) hP hD hS (fun _ h => h) (fun r3 u3 H locs ht hP hD hS => ?_)
  have hP : va_P (dC, dI) vwCl (lw k b (fun j => j) u.2 (de_D0 X) b2 u2 D2 ob u.1 od q) H := by rw [lw_M]; exact hP
  have hD : va_D (fun q : Nat => s.heap.size ≤ q) (lw k b (fun j => j) u.2 (de_D0 X) b2 u2 D2 ob u.1 od q) := by rw [lw_M]; exact hD
  subst ht
  have hag := ag_octets (I := de_I0) (D := de_D0 X) (I2 := mo_I0) (D2 := D2) (r2 := r2) (xs 1) Wv 0 hW (by decide) rfl  hc hm
  refine rw_i (y := r) hag.1 ?_
  refine lv_iload hx hb dlaw_197 (lv_at hl 1 rfl) ?_
  refine lv_icmp_eq (tgt := 204) hx hb dlaw_199 (by decide) (fun c199 => ?_) (fun c199 => ?_)
  · refine lv_iload hx hb dlaw_204 (lv_at hl 1 rfl) ?_
    refine lv_if_ne (tgt := 221) hx hb dlaw_206 (by decide) (fun c206 => ?_) (fun c206 => ?_)
    · refine lv_goto (tgt := 1189) hx hb dlaw_221 (by decide) ?_
      exact K _ _ _ hS (lv_sub hl [2, 7] rfl)
    · have hz := hag.2 (show r = nI 0 from c206)
      refine lv_aload_n hx hb dlaw_209 rfl (lv_at hl 4 rfl) ?_
      refine lv_iconst (v := nI 0) hx hb dlaw_210 (by decide +kernel) ?_
      refine rw_ald_l (k := 0) hx hb hK hP 0 4 rfl rfl (by decide) (by decide) dlaw_211 ?_
      refine rw_l (y := r2.toInt64) hz ?_
      refine lv_iload hx hb dlaw_212 (lv_at hl 0 rfl) ?_
      refine lv_i2l (v := r2.toInt64) hx hb dlaw_214 rfl ?_
      refine W.lcmp hx hb dlaw_215 ?_
      refine lv_if_eq (tgt := 221) hx hb dlaw_216 (by decide) (fun c216 => ?_) (fun c216 => ?_)
      · refine lv_goto (tgt := 1189) hx hb dlaw_221 (by decide) ?_
        exact K _ _ _ hS (lv_sub hl [2, 7] rfl)
      · exact absurd ((lg_cmp_eq _ _).mpr rfl) c216
  · exact absurd rfl c199
set_option maxHeartbeats 4000000 in
set_option maxRecDepth 100000 in
theorem ar_read {p : Program} {e : Env} {s : State} {m : MethodId} {below : List Frame} {meth : Method} {c : Code} {Q : State → Prop} (l : Launch) {sb L : Nat} {xs : Nat → Int32} (hL4 : 4 ≤ L) (hLb : L ≤ 2048) {dC : Nat → ClassId} {dI : Nat → Nat → Nat} {k : Nat → ClassId} (CX : la_cx p l s m c sb L xs dC dI k) {b b2 : Nat → Nat} {X D2 : Nat → Nat → UInt64} {ob od : Nat} {o : Nat → Int64} {q : Nat → UInt64} (FX : la_fx X D2) {H : Heap} {locs : List Loc} {ls : Array Slot} (hP : va_P (dC, dI) vwCl (lw k b (fun j => j) de_I0 (de_D0 X) b2 mo_I0 D2 ob o od q) H) (hD : va_D (fun q : Nat => s.heap.size ≤ q) (lw k b (fun j => j) de_I0 (de_D0 X) b2 mo_I0 D2 ob o od q)) (hS : va_S (fun q : Nat => s.heap.size ≤ q) s.heap H locs) (hl : lv_has ls 9 [(5, .int (nI 0)), (4, .ref od), (3, .ref ob), (2, .ref (b2 0)), (1, .ref (b 0)), (0, .ref sb)]) (K : ∀ (H : Heap) (locs : List Loc) (ls : Array Slot), va_S (fun q : Nat => s.heap.size ≤ q) s.heap H locs → lv_has ls 9 [(5, .int (nI 0)), (0, .ref sb)] → W p l e room_1 s m #[Value.ref sb] below meth c H locs 67 2920 Q (F0 m 1189 ls [])) : W p l e room_1 s m #[Value.ref sb] below meth c H locs 66 2914 Q (F0 m 224 ls []) := by
  obtain ⟨hx, hb, hml, hown, hts, hX, hbl, hK, hE, hln⟩ := CX
  refine lv_aload_n hx hb dlaw_224 rfl (lv_at hl 4 rfl) ?_
  refine lv_aload_n hx hb dlaw_225 rfl (lv_at hl 2 rfl) ?_
  have hP : va_P (dC, dI) vwCl ([] ++ (((ob, .inl (k 4, 1, .inr (.inl o))) :: wd k b (fun j => j) de_I0 (de_D0 X)) ++ ([(od, .inl (k 1, 1, wd_d q))] ++ wm k b2 mo_I0 D2))) H := by rw [← lw_L]; exact hP
  have hD : va_D (fun q : Nat => s.heap.size ≤ q) ([] ++ (((ob, .inl (k 4, 1, .inr (.inl o))) :: wd k b (fun j => j) de_I0 (de_D0 X)) ++ ([(od, .inl (k 1, 1, wd_d q))] ++ wm k b2 mo_I0 D2))) := by rw [← lw_L]; exact hD
  refine sg_i (sw_runS (ws' := []) (n := 2) (As := [.ref (b 0), .ref ob]) (rest := []) ⟨hx, hb, hml, hown, hts⟩ (kLa_read0 l hln dC dI k b (fun j => j) de_I0 (de_D0 X) _ ob o 0 (by decide) rfl) rfl rfl (Nat.le_of_ble_eq_true rfl) (Nat.le_of_ble_eq_true rfl) tw_339 tw_338 tw_0 tw_337 (by decide +kernel) ⟨ct_blind (ev := ev_L) ev_L.blind, ct_now (A := (fun q : Nat => s.heap.size ≤ q)) (ev := ev_L) (fun U hU hW9 => hE.to hW9 (st_law hS hU)) (sg_Pc hP) hK (sg_Dc hD)⟩ rfl rfl hl.1 rfl (lv_room (Nat.le_of_ble_eq_true rfl)) dlaw_226 ⟨Nat.le_of_ble_eq_true rfl, Nat.le_of_ble_eq_true rfl⟩) hP hD hS (fun _ h => h) (fun r u H locs hc hP hD hS => ?_)
  have hP : va_P (dC, dI) vwCl (lw k b (fun j => j) u.2 (de_D0 X) b2 mo_I0 D2 ob u.1 od q) H := by rw [lw_L]; exact hP
  have hD : va_D (fun q : Nat => s.heap.size ≤ q) (lw k b (fun j => j) u.2 (de_D0 X) b2 mo_I0 D2 ob u.1 od q) := by rw [lw_L]; exact hD
  refine lv_istore (lv' := [(6, .int r), (5, .int (nI 0)), (4, .ref od), (3, .ref ob), (2, .ref (b2 0)), (1, .ref (b 0)), (0, .ref sb)]) hx hb dlaw_229 hl (by decide) rfl (fun ls hl => ?_)
  refine lv_aload_n hx hb dlaw_231 rfl (lv_at hl 4 rfl) ?_
  have hP : va_P (dC, dI) vwCl (([(ob, .inl (k 4, 1, .inr (.inl u.1)))] ++ (wd k b (fun j => j) u.2 (de_D0 X) ++ [(od, .inl (k 1, 1, wd_d q))])) ++ (wm k b2 mo_I0 D2 ++ [])) H := by rw [← lw_M]; exact hP
  have hD : va_D (fun q : Nat => s.heap.size ≤ q) (([(ob, .inl (k 4, 1, .inr (.inl u.1)))] ++ (wd k b (fun j => j) u.2 (de_D0 X) ++ [(od, .inl (k 1, 1, wd_d q))])) ++ (wm k b2 mo_I0 D2 ++ [])) := by rw [← lw_M]; exact hD
  refine sg_i (va_runV (As := []) (rest := []) ⟨hx, hb, hml, hown, hts⟩ (kMo_read0 l dC dI k b2 mo_I0 D2 _ 0 (by decide) rfl) (cwV 0 hts (gw_V tw_746 tw_747 tw_748 tw_9 tw_749) rfl rfl rfl (by decide +kernel) ⟨Nat.le_of_ble_eq_true rfl, Nat.le_of_ble_eq_true rfl⟩) ⟨ct_blind (ev := fun _ => True) (fun _ _ _ _ h => h), va_recv hK (sg_Pc hP) (ci := 8) (q0 := 0) rfl rfl, ct_now (A := (fun q : Nat => s.heap.size ≤ q)) (ev := fun _ => True) (fun _ _ _ => trivial) (sg_Pc hP) (hK.sub (tys' := mo_ty k) [0, 1] rfl) (sg_Dc hD)⟩ rfl rfl hl.1 rfl (lv_room (Nat.le_of_ble_eq_true rfl)) dlaw_232 ⟨Nat.le_of_ble_eq_true rfl, Nat.le_of_ble_eq_true rfl⟩) hP hD hS (fun _ h => h) (fun r2 u2 H locs hm hP hD hS => ?_)
  have hP : va_P (dC, dI) vwCl (lw k b (fun j => j) u.2 (de_D0 X) b2 u2 D2 ob u.1 od q) H := by rw [lw_M]; exact hP
  have hD : va_D (fun q : Nat => s.heap.size ≤ q) (lw k b (fun j => j) u.2 (de_D0 X) b2 u2 D2 ob u.1 od q) := by rw [lw_M]; exact hD
  refine lv_istore (lv' := [(7, .int r2), (6, .int r), (5, .int (nI 0)), (4, .ref od), (3, .ref ob), (2, .ref (b2 0)), (1, .ref (b 0)), (0, .ref sb)]) hx hb dlaw_235 hl (by decide) rfl (fun ls hl => ?_)
  refine lv_aload_n hx hb dlaw_237 rfl (lv_at hl 5 rfl) ?_
  have hP : va_P (dC, dI) vwCl (([(ob, .inl (k 4, 1, .inr (.inl u.1)))] ++ (wd k b (fun j => j) u.2 (de_D0 X) ++ [(od, .inl (k 1, 1, wd_d q))])) ++ (wm k b2 u2 D2 ++ [])) H := by rw [← lw_M]; exact hP
  have hD : va_D (fun q : Nat => s.heap.size ≤ q) (([(ob, .inl (k 4, 1, .inr (.inl u.1)))] ++ (wd k b (fun j => j) u.2 (de_D0 X) ++ [(od, .inl (k 1, 1, wd_d q))])) ++ (wm k b2 u2 D2 ++ [])) := by rw [← lw_M]; exact hD
  refine sg_i (va_runV (As := []) (rest := []) ⟨hx, hb, hml, hown, hts⟩ (kMo_thrown l dC dI k b2 u2 D2 _ ) (cwV 0 hts (gw_V tw_729 tw_730 tw_731 tw_9 tw_732) rfl rfl rfl (by decide +kernel) ⟨Nat.le_of_ble_eq_true rfl, Nat.le_of_ble_eq_true rfl⟩) ⟨ct_blind (ev := fun _ => True) (fun _ _ _ _ h => h), va_recv hK (sg_Pc hP) (ci := 8) (q0 := 0) rfl rfl, ct_now (A := (fun q : Nat => s.heap.size ≤ q)) (ev := fun _ => True) (fun _ _ _ => trivial) (sg_Pc hP) (hK.sub (tys' := mo_ty k) [0, 1] rfl) (sg_Dc hD)⟩ rfl rfl hl.1 rfl (lv_room (Nat.le_of_ble_eq_true rfl)) dlaw_238 ⟨Nat.le_of_ble_eq_true rfl, Nat.le_of_ble_eq_true rfl⟩) hP hD hS (fun _ h => h) (fun r3 u3 H locs ht hP hD hS => ?_)
  have hP : va_P (dC, dI) vwCl (lw k b (fun j => j) u.2 (de_D0 X) b2 u2 D2 ob u.1 od q) H := by rw [lw_M]; exact hP
  have hD : va_D (fun q : Nat => s.heap.size ≤ q) (lw k b (fun j => j) u.2 (de_D0 X) b2 u2 D2 ob u.1 od q) := by rw [lw_M]; exact hD
  subst ht
  have hag := ag_read (I := de_I0) (D := de_D0 X) (I2 := mo_I0) (D2 := D2) (r2 := r2) 0 (by decide) rfl  hc hm
  refine rw_i (y := r) hag.1 ?_
  refine lv_iload hx hb dlaw_241 (lv_at hl 1 rfl) ?_
  refine lv_icmp_eq (tgt := 248) hx hb dlaw_243 (by decide) (fun c243 => ?_) (fun c243 => ?_)
  · refine lv_iload hx hb dlaw_248 (lv_at hl 1 rfl) ?_
    refine lv_if_ne (tgt := 265) hx hb dlaw_250 (by decide) (fun c250 => ?_) (fun c250 => ?_)
    · refine lv_goto (tgt := 1189) hx hb dlaw_265 (by decide) ?_
      exact K _ _ _ hS (lv_sub hl [2, 7] rfl)
    · have hz := hag.2 (show r = nI 0 from c250)
      refine lv_aload_n hx hb dlaw_253 rfl (lv_at hl 4 rfl) ?_
      refine lv_iconst (v := nI 0) hx hb dlaw_254 (by decide +kernel) ?_
      refine rw_ald_l (k := 0) hx hb hK hP 0 4 rfl rfl (by decide) (by decide) dlaw_255 ?_
      refine rw_l (y := r2.toInt64) hz ?_
      refine lv_iload hx hb dlaw_256 (lv_at hl 0 rfl) ?_
      refine lv_i2l (v := r2.toInt64) hx hb dlaw_258 rfl ?_
      refine W.lcmp hx hb dlaw_259 ?_
      refine lv_if_eq (tgt := 265) hx hb dlaw_260 (by decide) (fun c260 => ?_) (fun c260 => ?_)
      · refine lv_goto (tgt := 1189) hx hb dlaw_265 (by decide) ?_
        exact K _ _ _ hS (lv_sub hl [2, 7] rfl)
      · exact absurd ((lg_cmp_eq _ _).mpr rfl) c260
  · exact absurd rfl c243
set_option maxHeartbeats 4000000 in
set_option maxRecDepth 100000 in
theorem ar_place {p : Program} {e : Env} {s : State} {m : MethodId} {below : List Frame} {meth : Method} {c : Code} {Q : State → Prop} (l : Launch) {sb L : Nat} {xs : Nat → Int32} (hL4 : 4 ≤ L) (hLb : L ≤ 2048) {dC : Nat → ClassId} {dI : Nat → Nat → Nat} {k : Nat → ClassId} (CX : la_cx p l s m c sb L xs dC dI k) {b b2 : Nat → Nat} {X D2 : Nat → Nat → UInt64} {ob od : Nat} {o : Nat → Int64} {q : Nat → UInt64} (FX : la_fx X D2) {H : Heap} {locs : List Loc} {ls : Array Slot} (hP : va_P (dC, dI) vwCl (lw k b (fun j => j) de_I0 (de_D0 X) b2 mo_I0 D2 ob o od q) H) (hD : va_D (fun q : Nat => s.heap.size ≤ q) (lw k b (fun j => j) de_I0 (de_D0 X) b2 mo_I0 D2 ob o od q)) (hS : va_S (fun q : Nat => s.heap.size ≤ q) s.heap H locs) (hl : lv_has ls 9 [(5, .int (nI 0)), (4, .ref od), (3, .ref ob), (2, .ref (b2 0)), (1, .ref (b 0)), (0, .ref sb)]) (K : ∀ (H : Heap) (locs : List Loc) (ls : Array Slot), va_S (fun q : Nat => s.heap.size ≤ q) s.heap H locs → lv_has ls 9 [(5, .int (nI 0)), (0, .ref sb)] → W p l e room_1 s m #[Value.ref sb] below meth c H locs 67 2920 Q (F0 m 1189 ls [])) : W p l e room_1 s m #[Value.ref sb] below meth c H locs 66 2914 Q (F0 m 268 ls []) := by
  obtain ⟨hx, hb, hml, hown, hts, hX, hbl, hK, hE, hln⟩ := CX
  refine lv_aload_n hx hb dlaw_268 rfl (lv_at hl 4 rfl) ?_
  have hP : va_P (dC, dI) vwCl ([(ob, .inl (k 4, 1, .inr (.inl o)))] ++ (wd k b (fun j => j) de_I0 (de_D0 X) ++ ([(od, .inl (k 1, 1, wd_d q))] ++ wm k b2 mo_I0 D2))) H := by rw [← lw_C]; exact hP
  have hD : va_D (fun q : Nat => s.heap.size ≤ q) ([(ob, .inl (k 4, 1, .inr (.inl o)))] ++ (wd k b (fun j => j) de_I0 (de_D0 X) ++ ([(od, .inl (k 1, 1, wd_d q))] ++ wm k b2 mo_I0 D2))) := by rw [← lw_C]; exact hD
  refine sg_i (va_runV (As := []) (rest := []) ⟨hx, hb, hml, hown, hts⟩ (kDe_place l dC dI k b (fun j => j) de_I0 (de_D0 X) _ ) (cwV 0 hts (gw_V tw_223 tw_224 tw_225 tw_1 tw_226) rfl rfl rfl (by decide +kernel) ⟨Nat.le_of_ble_eq_true rfl, Nat.le_of_ble_eq_true rfl⟩) ⟨ct_blind (ev := (fun _ => True)) (fun _ _ _ _ h => h), va_recv hK (sg_Pc hP) (ci := 7) (q0 := 0) rfl rfl, ct_now (A := (fun q : Nat => s.heap.size ≤ q)) (ev := (fun _ => True)) (fun _ _ _ => trivial) (sg_Pc hP) (hK.sub (tys' := de_ty k) [0, 1, 2, 3] rfl) (sg_Dc hD)⟩ rfl rfl hl.1 rfl (lv_room (Nat.le_of_ble_eq_true rfl)) dlaw_269 ⟨Nat.le_of_ble_eq_true rfl, Nat.le_of_ble_eq_true rfl⟩) hP hD hS (fun _ h => h) (fun r u H locs hc hP hD hS => ?_)
  subst hc
  have hP : va_P (dC, dI) vwCl (lw k b (fun j => j) de_I0 (de_D0 X) b2 mo_I0 D2 ob o od q) H := by rw [lw_C]; exact hP
  have hD : va_D (fun q : Nat => s.heap.size ≤ q) (lw k b (fun j => j) de_I0 (de_D0 X) b2 mo_I0 D2 ob o od q) := by rw [lw_C]; exact hD
  refine lv_aload_n hx hb dlaw_272 rfl (lv_at hl 3 rfl) ?_
  have hP : va_P (dC, dI) vwCl (([(ob, .inl (k 4, 1, .inr (.inl o)))] ++ (wd k b (fun j => j) de_I0 (de_D0 X) ++ [(od, .inl (k 1, 1, wd_d q))])) ++ (wm k b2 mo_I0 D2 ++ [])) H := by rw [← lw_M]; exact hP
  have hD : va_D (fun q : Nat => s.heap.size ≤ q) (([(ob, .inl (k 4, 1, .inr (.inl o)))] ++ (wd k b (fun j => j) de_I0 (de_D0 X) ++ [(od, .inl (k 1, 1, wd_d q))])) ++ (wm k b2 mo_I0 D2 ++ [])) := by rw [← lw_M]; exact hD
  refine sg_i (va_runV (As := []) (rest := [.int (de_I0 0 1)]) ⟨hx, hb, hml, hown, hts⟩ (kMo_place l dC dI k b2 mo_I0 D2 _ ) (cwV 0 hts (gw_V tw_772 tw_773 tw_774 tw_9 tw_775) rfl rfl rfl (by decide +kernel) ⟨Nat.le_of_ble_eq_true rfl, Nat.le_of_ble_eq_true rfl⟩) ⟨ct_blind (ev := fun _ => True) (fun _ _ _ _ h => h), va_recv hK (sg_Pc hP) (ci := 8) (q0 := 0) rfl rfl, ct_now (A := (fun q : Nat => s.heap.size ≤ q)) (ev := fun _ => True) (fun _ _ _ => trivial) (sg_Pc hP) (hK.sub (tys' := mo_ty k) [0, 1] rfl) (sg_Dc hD)⟩ rfl rfl hl.1 rfl (lv_room (Nat.le_of_ble_eq_true rfl)) dlaw_273 ⟨Nat.le_of_ble_eq_true rfl, Nat.le_of_ble_eq_true rfl⟩) hP hD hS (fun _ h => h) (fun r2 u2 H locs hm hP hD hS => ?_)
  have hP : va_P (dC, dI) vwCl (lw k b (fun j => j) de_I0 (de_D0 X) b2 u2 D2 ob o od q) H := by rw [lw_M]; exact hP
  have hD : va_D (fun q : Nat => s.heap.size ≤ q) (lw k b (fun j => j) de_I0 (de_D0 X) b2 u2 D2 ob o od q) := by rw [lw_M]; exact hD
  obtain ⟨-, hm⟩ := hm
  subst hm
  refine lv_icmp_eq (tgt := 1189) hx hb dlaw_276 (by decide) (fun c276 => ?_) (fun c276 => ?_)
  · refine W.widen (k := 67) (n := 2920) (by decide) (by decide) ?_
    exact K _ _ _ hS (lv_sub hl [0, 5] rfl)
  · exact absurd (by decide) c276
set_option maxHeartbeats 4000000 in
set_option maxRecDepth 100000 in
theorem ar_wave {p : Program} {e : Env} {s : State} {m : MethodId} {below : List Frame} {meth : Method} {c : Code} {Q : State → Prop} (l : Launch) {sb L : Nat} {xs : Nat → Int32} (hL4 : 4 ≤ L) (hLb : L ≤ 2048) {dC : Nat → ClassId} {dI : Nat → Nat → Nat} {k : Nat → ClassId} (CX : la_cx p l s m c sb L xs dC dI k) {b b2 : Nat → Nat} {X D2 : Nat → Nat → UInt64} {ob od : Nat} {o : Nat → Int64} {q : Nat → UInt64} (FX : la_fx X D2) {H : Heap} {locs : List Loc} {ls : Array Slot} (hP : va_P (dC, dI) vwCl (lw k b (fun j => j) de_I0 (de_D0 X) b2 mo_I0 D2 ob o od q) H) (hD : va_D (fun q : Nat => s.heap.size ≤ q) (lw k b (fun j => j) de_I0 (de_D0 X) b2 mo_I0 D2 ob o od q)) (hS : va_S (fun q : Nat => s.heap.size ≤ q) s.heap H locs) (hl : lv_has ls 9 [(5, .int (nI 0)), (4, .ref od), (3, .ref ob), (2, .ref (b2 0)), (1, .ref (b 0)), (0, .ref sb)]) (K : ∀ (H : Heap) (locs : List Loc) (ls : Array Slot), va_S (fun q : Nat => s.heap.size ≤ q) s.heap H locs → lv_has ls 9 [(5, .int (nI 0)), (0, .ref sb)] → W p l e room_1 s m #[Value.ref sb] below meth c H locs 67 2920 Q (F0 m 1189 ls [])) : W p l e room_1 s m #[Value.ref sb] below meth c H locs 66 2914 Q (F0 m 281 ls []) := by
  obtain ⟨hx, hb, hml, hown, hts, hX, hbl, hK, hE, hln⟩ := CX
  refine lv_aload_n hx hb dlaw_281 rfl (lv_at hl 4 rfl) ?_
  refine lv_aload_n hx hb dlaw_282 rfl (lv_at hl 5 rfl) ?_
  refine lv_iload hx hb dlaw_283 (lv_at hl 0 rfl) ?_
  refine lv_iconst (v := nI 1) hx hb dlaw_285 (by decide +kernel) ?_
  refine lv_iadd hx hb dlaw_286 ?_
  refine rw_i (y := nI 1) rfl ?_
  refine rw_sld (k := 1) hx hb hX hbl (Nat.not_le.mpr hbl) hS (by omega) (by omega) dlaw_287 ?_
  refine lv_aload_n hx hb dlaw_288 rfl (lv_at hl 5 rfl) ?_
  refine lv_iload hx hb dlaw_289 (lv_at hl 0 rfl) ?_
  refine lv_iconst (v := nI 2) hx hb dlaw_291 (by decide +kernel) ?_
  refine lv_iadd hx hb dlaw_292 ?_
  refine rw_i (y := nI 2) rfl ?_
  refine rw_sld (k := 2) hx hb hX hbl (Nat.not_le.mpr hbl) hS (by omega) (by omega) dlaw_293 ?_
  refine lv_aload_n hx hb dlaw_294 rfl (lv_at hl 5 rfl) ?_
  refine lv_iload hx hb dlaw_295 (lv_at hl 0 rfl) ?_
  refine lv_iconst (v := nI 3) hx hb dlaw_297 (by decide +kernel) ?_
  refine lv_iadd hx hb dlaw_298 ?_
  refine rw_i (y := nI 3) rfl ?_
  refine rw_sld (k := 3) hx hb hX hbl (Nat.not_le.mpr hbl) hS (by omega) (by omega) dlaw_299 ?_
  refine lv_i2d hx hb dlaw_300 ?_
  refine lv_ldc2d (v := 4593671619917905920) hx hb hown (hts _ tw_877) dlaw_301 ?_
  refine lv_dmul hx hb dlaw_304 (fb_n (fb_w8 _) (by decide)) ?_
  refine lv_aload_n hx hb dlaw_305 rfl (lv_at hl 2 rfl) ?_
  have hP : va_P (dC, dI) vwCl ([] ++ (((ob, .inl (k 4, 1, .inr (.inl o))) :: wd k b (fun j => j) de_I0 (de_D0 X)) ++ ([(od, .inl (k 1, 1, wd_d q))] ++ wm k b2 mo_I0 D2))) H := by rw [← lw_L]; exact hP
  have hD : va_D (fun q : Nat => s.heap.size ≤ q) ([] ++ (((ob, .inl (k 4, 1, .inr (.inl o))) :: wd k b (fun j => j) de_I0 (de_D0 X)) ++ ([(od, .inl (k 1, 1, wd_d q))] ++ wm k b2 mo_I0 D2))) := by rw [← lw_L]; exact hD
  refine sg_i (sw_runS (ws' := []) (n := 5) (As := [.ref (b 0), .int (xs 1), .int (xs 2), .double (FP.dmul (FP.i2d (xs 3)) 4593671619917905920), .ref ob]) (rest := []) ⟨hx, hb, hml, hown, hts⟩ (kLa_wave l hln dC dI k b (fun j => j) de_I0 (de_D0 X) _ ob o (xs 1) (xs 2) (FP.dmul (FP.i2d (xs 3)) 4593671619917905920) (fb_w8 _) 0 (by decide) rfl (fun j hj => (FX.1 j hj).1)) rfl rfl (Nat.le_of_ble_eq_true rfl) (Nat.le_of_ble_eq_true rfl) tw_417 tw_416 tw_0 tw_415 (by decide +kernel) ⟨ct_blind (ev := ev_L) ev_L.blind, ct_now (A := (fun q : Nat => s.heap.size ≤ q)) (ev := ev_L) (fun U hU hW9 => hE.to hW9 (st_law hS hU)) (sg_Pc hP) hK (sg_Dc hD)⟩ rfl rfl hl.1 rfl (lv_room (Nat.le_of_ble_eq_true rfl)) dlaw_306 ⟨Nat.le_of_ble_eq_true rfl, Nat.le_of_ble_eq_true rfl⟩) hP hD hS (fun _ h => h) (fun r u H locs hc hP hD hS => ?_)
  have hP : va_P (dC, dI) vwCl (lw k b (fun j => j) ((u.2).1) ((u.2).2) b2 mo_I0 D2 ob u.1 od q) H := by rw [lw_L]; exact hP
  have hD : va_D (fun q : Nat => s.heap.size ≤ q) (lw k b (fun j => j) ((u.2).1) ((u.2).2) b2 mo_I0 D2 ob u.1 od q) := by rw [lw_L]; exact hD
  refine lv_istore (lv' := [(6, .int r), (5, .int (nI 0)), (4, .ref od), (3, .ref ob), (2, .ref (b2 0)), (1, .ref (b 0)), (0, .ref sb)]) hx hb dlaw_309 hl (by decide) rfl (fun ls hl => ?_)
  refine lv_aload_n hx hb dlaw_311 rfl (lv_at hl 4 rfl) ?_
  refine lv_aload_n hx hb dlaw_312 rfl (lv_at hl 6 rfl) ?_
  refine lv_iload hx hb dlaw_313 (lv_at hl 1 rfl) ?_
  refine lv_iconst (v := nI 1) hx hb dlaw_315 (by decide +kernel) ?_
  refine lv_iadd hx hb dlaw_316 ?_
  refine rw_i (y := nI 1) rfl ?_
  refine rw_sld (k := 1) hx hb hX hbl (Nat.not_le.mpr hbl) hS (by omega) (by omega) dlaw_317 ?_
  refine lv_aload_n hx hb dlaw_318 rfl (lv_at hl 6 rfl) ?_
  refine lv_iload hx hb dlaw_319 (lv_at hl 1 rfl) ?_
  refine lv_iconst (v := nI 2) hx hb dlaw_321 (by decide +kernel) ?_
  refine lv_iadd hx hb dlaw_322 ?_
  refine rw_i (y := nI 2) rfl ?_
  refine rw_sld (k := 2) hx hb hX hbl (Nat.not_le.mpr hbl) hS (by omega) (by omega) dlaw_323 ?_
  refine lv_aload_n hx hb dlaw_324 rfl (lv_at hl 6 rfl) ?_
  refine lv_iload hx hb dlaw_325 (lv_at hl 1 rfl) ?_
  refine lv_iconst (v := nI 3) hx hb dlaw_327 (by decide +kernel) ?_
  refine lv_iadd hx hb dlaw_328 ?_
  refine rw_i (y := nI 3) rfl ?_
  refine rw_sld (k := 3) hx hb hX hbl (Nat.not_le.mpr hbl) hS (by omega) (by omega) dlaw_329 ?_
  refine lv_i2d hx hb dlaw_330 ?_
  refine lv_ldc2d (v := 4593671619917905920) hx hb hown (hts _ tw_877) dlaw_331 ?_
  refine lv_dmul hx hb dlaw_334 (fb_n (fb_w8 _) (by decide)) ?_
  have hP : va_P (dC, dI) vwCl (([(ob, .inl (k 4, 1, .inr (.inl u.1)))] ++ (wd k b (fun j => j) ((u.2).1) ((u.2).2) ++ [(od, .inl (k 1, 1, wd_d q))])) ++ (wm k b2 mo_I0 D2 ++ [])) H := by rw [← lw_M]; exact hP
  have hD : va_D (fun q : Nat => s.heap.size ≤ q) (([(ob, .inl (k 4, 1, .inr (.inl u.1)))] ++ (wd k b (fun j => j) ((u.2).1) ((u.2).2) ++ [(od, .inl (k 1, 1, wd_d q))])) ++ (wm k b2 mo_I0 D2 ++ [])) := by rw [← lw_M]; exact hD
  refine sg_i (va_runV (As := [.int (xs 1), .int (xs 2), .double (FP.dmul (FP.i2d (xs 3)) 4593671619917905920)]) (rest := []) ⟨hx, hb, hml, hown, hts⟩ (kMo_wave l dC dI k b2 mo_I0 D2 _ (xs 1) (xs 2) (FP.dmul (FP.i2d (xs 3)) 4593671619917905920) (fb_w8 _) 0 (by decide) rfl (fun j hj => (FX.2 j hj).1)) (cwV 3 hts (gw_V tw_776 tw_777 tw_778 tw_9 tw_779) rfl rfl rfl (by decide +kernel) ⟨Nat.le_of_ble_eq_true rfl, Nat.le_of_ble_eq_true rfl⟩) ⟨ct_blind (ev := fun _ => True) (fun _ _ _ _ h => h), va_recv hK (sg_Pc hP) (ci := 8) (q0 := 0) rfl rfl, ct_now (A := (fun q : Nat => s.heap.size ≤ q)) (ev := fun _ => True) (fun _ _ _ => trivial) (sg_Pc hP) (hK.sub (tys' := mo_ty k) [0, 1] rfl) (sg_Dc hD)⟩ rfl rfl hl.1 rfl (lv_room (Nat.le_of_ble_eq_true rfl)) dlaw_335 ⟨Nat.le_of_ble_eq_true rfl, Nat.le_of_ble_eq_true rfl⟩) hP hD hS (fun _ h => h) (fun r2 u2 H locs hm hP hD hS => ?_)
  have hP : va_P (dC, dI) vwCl (lw k b (fun j => j) ((u.2).1) ((u.2).2) b2 u2.1 u2.2 ob u.1 od q) H := by rw [lw_M]; exact hP
  have hD : va_D (fun q : Nat => s.heap.size ≤ q) (lw k b (fun j => j) ((u.2).1) ((u.2).2) b2 u2.1 u2.2 ob u.1 od q) := by rw [lw_M]; exact hD
  refine lv_istore (lv' := [(7, .int r2), (6, .int r), (5, .int (nI 0)), (4, .ref od), (3, .ref ob), (2, .ref (b2 0)), (1, .ref (b 0)), (0, .ref sb)]) hx hb dlaw_338 hl (by decide) rfl (fun ls hl => ?_)
  refine lv_aload_n hx hb dlaw_340 rfl (lv_at hl 5 rfl) ?_
  have hP : va_P (dC, dI) vwCl (([(ob, .inl (k 4, 1, .inr (.inl u.1)))] ++ (wd k b (fun j => j) ((u.2).1) ((u.2).2) ++ [(od, .inl (k 1, 1, wd_d q))])) ++ (wm k b2 u2.1 u2.2 ++ [])) H := by rw [← lw_M]; exact hP
  have hD : va_D (fun q : Nat => s.heap.size ≤ q) (([(ob, .inl (k 4, 1, .inr (.inl u.1)))] ++ (wd k b (fun j => j) ((u.2).1) ((u.2).2) ++ [(od, .inl (k 1, 1, wd_d q))])) ++ (wm k b2 u2.1 u2.2 ++ [])) := by rw [← lw_M]; exact hD
  refine sg_i (va_runV (As := []) (rest := []) ⟨hx, hb, hml, hown, hts⟩ (kMo_thrown l dC dI k b2 u2.1 u2.2 _ ) (cwV 0 hts (gw_V tw_729 tw_730 tw_731 tw_9 tw_732) rfl rfl rfl (by decide +kernel) ⟨Nat.le_of_ble_eq_true rfl, Nat.le_of_ble_eq_true rfl⟩) ⟨ct_blind (ev := fun _ => True) (fun _ _ _ _ h => h), va_recv hK (sg_Pc hP) (ci := 8) (q0 := 0) rfl rfl, ct_now (A := (fun q : Nat => s.heap.size ≤ q)) (ev := fun _ => True) (fun _ _ _ => trivial) (sg_Pc hP) (hK.sub (tys' := mo_ty k) [0, 1] rfl) (sg_Dc hD)⟩ rfl rfl hl.1 rfl (lv_room (Nat.le_of_ble_eq_true rfl)) dlaw_341 ⟨Nat.le_of_ble_eq_true rfl, Nat.le_of_ble_eq_true rfl⟩) hP hD hS (fun _ h => h) (fun r3 u3 H locs ht hP hD hS => ?_)
  have hP : va_P (dC, dI) vwCl (lw k b (fun j => j) ((u.2).1) ((u.2).2) b2 u2.1 u2.2 ob u.1 od q) H := by rw [lw_M]; exact hP
  have hD : va_D (fun q : Nat => s.heap.size ≤ q) (lw k b (fun j => j) ((u.2).1) ((u.2).2) b2 u2.1 u2.2 ob u.1 od q) := by rw [lw_M]; exact hD
  subst ht
  have hag := ag_wave (I := de_I0) (D := de_D0 X) (I2 := mo_I0) (D2 := D2) (r2 := r2) (xs 1) (xs 2) (FP.dmul (FP.i2d (xs 3)) 4593671619917905920) (fb_w8 _) 0 (by decide) rfl (fun j hj => (FX.1 j hj).1)  hc hm
  refine rw_i (y := r) hag.1 ?_
  refine lv_iload hx hb dlaw_344 (lv_at hl 1 rfl) ?_
  refine lv_icmp_eq (tgt := 351) hx hb dlaw_346 (by decide) (fun c346 => ?_) (fun c346 => ?_)
  · refine lv_iload hx hb dlaw_351 (lv_at hl 1 rfl) ?_
    refine lv_if_ne (tgt := 368) hx hb dlaw_353 (by decide) (fun c353 => ?_) (fun c353 => ?_)
    · refine lv_goto (tgt := 1189) hx hb dlaw_368 (by decide) ?_
      exact K _ _ _ hS (lv_sub hl [2, 7] rfl)
    · have hz := hag.2 (show r = nI 0 from c353)
      refine lv_aload_n hx hb dlaw_356 rfl (lv_at hl 4 rfl) ?_
      refine lv_iconst (v := nI 0) hx hb dlaw_357 (by decide +kernel) ?_
      refine rw_ald_l (k := 0) hx hb hK hP 0 4 rfl rfl (by decide) (by decide) dlaw_358 ?_
      refine rw_l (y := r2.toInt64) hz ?_
      refine lv_iload hx hb dlaw_359 (lv_at hl 0 rfl) ?_
      refine lv_i2l (v := r2.toInt64) hx hb dlaw_361 rfl ?_
      refine W.lcmp hx hb dlaw_362 ?_
      refine lv_if_eq (tgt := 368) hx hb dlaw_363 (by decide) (fun c363 => ?_) (fun c363 => ?_)
      · refine lv_goto (tgt := 1189) hx hb dlaw_368 (by decide) ?_
        exact K _ _ _ hS (lv_sub hl [2, 7] rfl)
      · exact absurd ((lg_cmp_eq _ _).mpr rfl) c363
  · exact absurd rfl c346
set_option maxHeartbeats 4000000 in
set_option maxRecDepth 100000 in
theorem ar_clear {p : Program} {e : Env} {s : State} {m : MethodId} {below : List Frame} {meth : Method} {c : Code} {Q : State → Prop} (l : Launch) {sb L : Nat} {xs : Nat → Int32} (hL4 : 4 ≤ L) (hLb : L ≤ 2048) {dC : Nat → ClassId} {dI : Nat → Nat → Nat} {k : Nat → ClassId} (CX : la_cx p l s m c sb L xs dC dI k) {b b2 : Nat → Nat} {X D2 : Nat → Nat → UInt64} {ob od : Nat} {o : Nat → Int64} {q : Nat → UInt64} (FX : la_fx X D2) {H : Heap} {locs : List Loc} {ls : Array Slot} (hP : va_P (dC, dI) vwCl (lw k b (fun j => j) de_I0 (de_D0 X) b2 mo_I0 D2 ob o od q) H) (hD : va_D (fun q : Nat => s.heap.size ≤ q) (lw k b (fun j => j) de_I0 (de_D0 X) b2 mo_I0 D2 ob o od q)) (hS : va_S (fun q : Nat => s.heap.size ≤ q) s.heap H locs) (hl : lv_has ls 9 [(5, .int (nI 0)), (4, .ref od), (3, .ref ob), (2, .ref (b2 0)), (1, .ref (b 0)), (0, .ref sb)]) (K : ∀ (H : Heap) (locs : List Loc) (ls : Array Slot), va_S (fun q : Nat => s.heap.size ≤ q) s.heap H locs → lv_has ls 9 [(5, .int (nI 0)), (0, .ref sb)] → W p l e room_1 s m #[Value.ref sb] below meth c H locs 67 2920 Q (F0 m 1189 ls [])) : W p l e room_1 s m #[Value.ref sb] below meth c H locs 66 2914 Q (F0 m 371 ls []) := by
  obtain ⟨hx, hb, hml, hown, hts, hX, hbl, hK, hE, hln⟩ := CX
  refine lv_aload_n hx hb dlaw_371 rfl (lv_at hl 4 rfl) ?_
  have hP : va_P (dC, dI) vwCl ([(ob, .inl (k 4, 1, .inr (.inl o)))] ++ (wd k b (fun j => j) de_I0 (de_D0 X) ++ ([(od, .inl (k 1, 1, wd_d q))] ++ wm k b2 mo_I0 D2))) H := by rw [← lw_C]; exact hP
  have hD : va_D (fun q : Nat => s.heap.size ≤ q) ([(ob, .inl (k 4, 1, .inr (.inl o)))] ++ (wd k b (fun j => j) de_I0 (de_D0 X) ++ ([(od, .inl (k 1, 1, wd_d q))] ++ wm k b2 mo_I0 D2))) := by rw [← lw_C]; exact hD
  refine sg_i (va_runV (As := []) (rest := []) ⟨hx, hb, hml, hown, hts⟩ (kDe_clear l dC dI k b (fun j => j) de_I0 (de_D0 X) _ 0 rfl) (cwV 0 hts (gw_V tw_227 tw_228 tw_229 tw_1 tw_230) rfl rfl rfl (by decide +kernel) ⟨Nat.le_of_ble_eq_true rfl, Nat.le_of_ble_eq_true rfl⟩) ⟨ct_blind (ev := ev_N) ev_N.blind, va_recv hK (sg_Pc hP) (ci := 7) (q0 := 0) rfl rfl, ct_now (A := (fun q : Nat => s.heap.size ≤ q)) (ev := ev_N) (fun U _ hW9 => hE.1.1.warm hW9) (sg_Pc hP) (hK.sub (tys' := de_ty k) [0, 1, 2, 3] rfl) (sg_Dc hD)⟩ rfl rfl hl.1 rfl (lv_room (Nat.le_of_ble_eq_true rfl)) dlaw_372 ⟨Nat.le_of_ble_eq_true rfl, Nat.le_of_ble_eq_true rfl⟩) hP hD hS (fun _ h => h) (fun r u H locs hc hP hD hS => ?_)
  obtain ⟨hc, -⟩ := hc
  subst hc
  have hP : va_P (dC, dI) vwCl (lw k b (fun j => j) u (de_D0 X) b2 mo_I0 D2 ob o od q) H := by rw [lw_C]; exact hP
  have hD : va_D (fun q : Nat => s.heap.size ≤ q) (lw k b (fun j => j) u (de_D0 X) b2 mo_I0 D2 ob o od q) := by rw [lw_C]; exact hD
  refine lv_aload_n hx hb dlaw_375 rfl (lv_at hl 3 rfl) ?_
  have hP : va_P (dC, dI) vwCl (([(ob, .inl (k 4, 1, .inr (.inl o)))] ++ (wd k b (fun j => j) u (de_D0 X) ++ [(od, .inl (k 1, 1, wd_d q))])) ++ (wm k b2 mo_I0 D2 ++ [])) H := by rw [← lw_M]; exact hP
  have hD : va_D (fun q : Nat => s.heap.size ≤ q) (([(ob, .inl (k 4, 1, .inr (.inl o)))] ++ (wd k b (fun j => j) u (de_D0 X) ++ [(od, .inl (k 1, 1, wd_d q))])) ++ (wm k b2 mo_I0 D2 ++ [])) := by rw [← lw_M]; exact hD
  refine sg_i (va_runV (As := []) (rest := [.int (nI 0)]) ⟨hx, hb, hml, hown, hts⟩ (kMo_clear l dC dI k b2 mo_I0 D2 _ ) (cwV 0 hts (gw_V tw_782 tw_783 tw_784 tw_9 tw_785) rfl rfl rfl (by decide +kernel) ⟨Nat.le_of_ble_eq_true rfl, Nat.le_of_ble_eq_true rfl⟩) ⟨ct_blind (ev := fun _ => True) (fun _ _ _ _ h => h), va_recv hK (sg_Pc hP) (ci := 8) (q0 := 0) rfl rfl, ct_now (A := (fun q : Nat => s.heap.size ≤ q)) (ev := fun _ => True) (fun _ _ _ => trivial) (sg_Pc hP) (hK.sub (tys' := mo_ty k) [0, 1] rfl) (sg_Dc hD)⟩ rfl rfl hl.1 rfl (lv_room (Nat.le_of_ble_eq_true rfl)) dlaw_376 ⟨Nat.le_of_ble_eq_true rfl, Nat.le_of_ble_eq_true rfl⟩) hP hD hS (fun _ h => h) (fun r2 u2 H locs hm hP hD hS => ?_)
  have hP : va_P (dC, dI) vwCl (lw k b (fun j => j) u (de_D0 X) b2 u2 D2 ob o od q) H := by rw [lw_M]; exact hP
  have hD : va_D (fun q : Nat => s.heap.size ≤ q) (lw k b (fun j => j) u (de_D0 X) b2 u2 D2 ob o od q) := by rw [lw_M]; exact hD
  obtain ⟨-, hm⟩ := hm
  subst hm
  refine lv_icmp_eq (tgt := 1189) hx hb dlaw_379 (by decide) (fun c379 => ?_) (fun c379 => ?_)
  · refine W.widen (k := 67) (n := 2920) (by decide) (by decide) ?_
    exact K _ _ _ hS (lv_sub hl [0, 5] rfl)
  · exact absurd (by decide) c379
set_option maxHeartbeats 4000000 in
set_option maxRecDepth 100000 in
theorem ar_sample {p : Program} {e : Env} {s : State} {m : MethodId} {below : List Frame} {meth : Method} {c : Code} {Q : State → Prop} (l : Launch) {sb L : Nat} {xs : Nat → Int32} (hL4 : 4 ≤ L) (hLb : L ≤ 2048) {dC : Nat → ClassId} {dI : Nat → Nat → Nat} {k : Nat → ClassId} (CX : la_cx p l s m c sb L xs dC dI k) {b b2 : Nat → Nat} {X D2 : Nat → Nat → UInt64} {ob od : Nat} {o : Nat → Int64} {q : Nat → UInt64} (FX : la_fx X D2) {H : Heap} {locs : List Loc} {ls : Array Slot} (hP : va_P (dC, dI) vwCl (lw k b (fun j => j) de_I0 (de_D0 X) b2 mo_I0 D2 ob o od q) H) (hD : va_D (fun q : Nat => s.heap.size ≤ q) (lw k b (fun j => j) de_I0 (de_D0 X) b2 mo_I0 D2 ob o od q)) (hS : va_S (fun q : Nat => s.heap.size ≤ q) s.heap H locs) (hl : lv_has ls 9 [(5, .int (nI 0)), (4, .ref od), (3, .ref ob), (2, .ref (b2 0)), (1, .ref (b 0)), (0, .ref sb)]) (K : ∀ (H : Heap) (locs : List Loc) (ls : Array Slot), va_S (fun q : Nat => s.heap.size ≤ q) s.heap H locs → lv_has ls 9 [(5, .int (nI 0)), (0, .ref sb)] → W p l e room_1 s m #[Value.ref sb] below meth c H locs 67 2920 Q (F0 m 1189 ls [])) : W p l e room_1 s m #[Value.ref sb] below meth c H locs 66 2914 Q (F0 m 384 ls []) := by
  obtain ⟨hx, hb, hml, hown, hts, hX, hbl, hK, hE, hln⟩ := CX
  refine lv_aload_n hx hb dlaw_384 rfl (lv_at hl 4 rfl) ?_
  refine lv_aload_n hx hb dlaw_385 rfl (lv_at hl 5 rfl) ?_
  refine lv_iload hx hb dlaw_386 (lv_at hl 0 rfl) ?_
  refine lv_iconst (v := nI 1) hx hb dlaw_388 (by decide +kernel) ?_
  refine lv_iadd hx hb dlaw_389 ?_
  refine rw_i (y := nI 1) rfl ?_
  refine rw_sld (k := 1) hx hb hX hbl (Nat.not_le.mpr hbl) hS (by omega) (by omega) dlaw_390 ?_
  refine lv_aload hx hb dlaw_391 (lv_at hl 1 rfl) ?_
  have hP : va_P (dC, dI) vwCl ([(ob, .inl (k 4, 1, .inr (.inl o)))] ++ ((wd k b (fun j => j) de_I0 (de_D0 X) ++ [(od, .inl (k 1, 1, wd_d q))]) ++ wm k b2 mo_I0 D2)) H := by rw [← lw_D]; exact hP
  have hD : va_D (fun q : Nat => s.heap.size ≤ q) ([(ob, .inl (k 4, 1, .inr (.inl o)))] ++ ((wd k b (fun j => j) de_I0 (de_D0 X) ++ [(od, .inl (k 1, 1, wd_d q))]) ++ wm k b2 mo_I0 D2)) := by rw [← lw_D]; exact hD
  refine sg_i (sw_runS (ws' := []) (n := 3) (As := [.ref (b 0), .int (xs 1), .ref od]) (rest := []) ⟨hx, hb, hml, hown, hts⟩ (kLa_sample l hln dC dI k b (fun j => j) de_I0 (de_D0 X) _ od q (xs 1) 0 (by decide) rfl) rfl rfl (Nat.le_of_ble_eq_true rfl) (Nat.le_of_ble_eq_true rfl) tw_433 tw_432 tw_0 tw_431 (by decide +kernel) ⟨ct_blind (ev := ev_L) ev_L.blind, ct_now (A := (fun q : Nat => s.heap.size ≤ q)) (ev := ev_L) (fun U hU hW9 => hE.to hW9 (st_law hS hU)) (sg_Pc hP) hK (sg_Dc hD)⟩ rfl rfl hl.1 rfl (lv_room (Nat.le_of_ble_eq_true rfl)) dlaw_393 ⟨Nat.le_of_ble_eq_true rfl, Nat.le_of_ble_eq_true rfl⟩) hP hD hS (fun _ h => h) (fun r u H locs hc hP hD hS => ?_)
  have hP : va_P (dC, dI) vwCl (lw k b (fun j => j) u.2 (de_D0 X) b2 mo_I0 D2 ob o od u.1) H := by rw [lw_D]; exact hP
  have hD : va_D (fun q : Nat => s.heap.size ≤ q) (lw k b (fun j => j) u.2 (de_D0 X) b2 mo_I0 D2 ob o od u.1) := by rw [lw_D]; exact hD
  refine lv_istore (lv' := [(6, .int r), (5, .int (nI 0)), (4, .ref od), (3, .ref ob), (2, .ref (b2 0)), (1, .ref (b 0)), (0, .ref sb)]) hx hb dlaw_396 hl (by decide) rfl (fun ls hl => ?_)
  refine lv_aload_n hx hb dlaw_398 rfl (lv_at hl 4 rfl) ?_
  refine lv_aload_n hx hb dlaw_399 rfl (lv_at hl 6 rfl) ?_
  refine lv_iload hx hb dlaw_400 (lv_at hl 1 rfl) ?_
  refine lv_iconst (v := nI 1) hx hb dlaw_402 (by decide +kernel) ?_
  refine lv_iadd hx hb dlaw_403 ?_
  refine rw_i (y := nI 1) rfl ?_
  refine rw_sld (k := 1) hx hb hX hbl (Nat.not_le.mpr hbl) hS (by omega) (by omega) dlaw_404 ?_
  have hP : va_P (dC, dI) vwCl (([(ob, .inl (k 4, 1, .inr (.inl o)))] ++ (wd k b (fun j => j) u.2 (de_D0 X) ++ [(od, .inl (k 1, 1, wd_d u.1))])) ++ (wm k b2 mo_I0 D2 ++ [])) H := by rw [← lw_M]; exact hP
  have hD : va_D (fun q : Nat => s.heap.size ≤ q) (([(ob, .inl (k 4, 1, .inr (.inl o)))] ++ (wd k b (fun j => j) u.2 (de_D0 X) ++ [(od, .inl (k 1, 1, wd_d u.1))])) ++ (wm k b2 mo_I0 D2 ++ [])) := by rw [← lw_M]; exact hD
  refine sg_d (va_runV (As := [.int (xs 1)]) (rest := []) ⟨hx, hb, hml, hown, hts⟩ (kMo_sample l dC dI k b2 mo_I0 D2 _ (xs 1) 0 (by decide) rfl) (cwV 1 hts (gw_V tw_786 tw_787 tw_788 tw_9 tw_789) rfl rfl rfl (by decide +kernel) ⟨Nat.le_of_ble_eq_true rfl, Nat.le_of_ble_eq_true rfl⟩) ⟨ct_blind (ev := fun _ => True) (fun _ _ _ _ h => h), va_recv hK (sg_Pc hP) (ci := 8) (q0 := 0) rfl rfl, ct_now (A := (fun q : Nat => s.heap.size ≤ q)) (ev := fun _ => True) (fun _ _ _ => trivial) (sg_Pc hP) (hK.sub (tys' := mo_ty k) [0, 1] rfl) (sg_Dc hD)⟩ rfl rfl hl.1 rfl (lv_room (Nat.le_of_ble_eq_true rfl)) dlaw_405 ⟨Nat.le_of_ble_eq_true rfl, Nat.le_of_ble_eq_true rfl⟩) hP hD hS (fun _ h => h) (fun r2 u2 H locs hm hP hD hS => ?_)
  have hP : va_P (dC, dI) vwCl (lw k b (fun j => j) u.2 (de_D0 X) b2 u2 D2 ob o od u.1) H := by rw [lw_M]; exact hP
  have hD : va_D (fun q : Nat => s.heap.size ≤ q) (lw k b (fun j => j) u.2 (de_D0 X) b2 u2 D2 ob o od u.1) := by rw [lw_M]; exact hD
  refine lv_dstore (lv' := [(7, .double r2), (6, .int r), (5, .int (nI 0)), (4, .ref od), (3, .ref ob), (2, .ref (b2 0)), (1, .ref (b 0)), (0, .ref sb)]) hx hb dlaw_408 hl (by decide) rfl (fun ls hl => ?_)
  refine lv_aload_n hx hb dlaw_410 rfl (lv_at hl 5 rfl) ?_
  have hP : va_P (dC, dI) vwCl (([(ob, .inl (k 4, 1, .inr (.inl o)))] ++ (wd k b (fun j => j) u.2 (de_D0 X) ++ [(od, .inl (k 1, 1, wd_d u.1))])) ++ (wm k b2 u2 D2 ++ [])) H := by rw [← lw_M]; exact hP
  have hD : va_D (fun q : Nat => s.heap.size ≤ q) (([(ob, .inl (k 4, 1, .inr (.inl o)))] ++ (wd k b (fun j => j) u.2 (de_D0 X) ++ [(od, .inl (k 1, 1, wd_d u.1))])) ++ (wm k b2 u2 D2 ++ [])) := by rw [← lw_M]; exact hD
  refine sg_i (va_runV (As := []) (rest := []) ⟨hx, hb, hml, hown, hts⟩ (kMo_thrown l dC dI k b2 u2 D2 _ ) (cwV 0 hts (gw_V tw_729 tw_730 tw_731 tw_9 tw_732) rfl rfl rfl (by decide +kernel) ⟨Nat.le_of_ble_eq_true rfl, Nat.le_of_ble_eq_true rfl⟩) ⟨ct_blind (ev := fun _ => True) (fun _ _ _ _ h => h), va_recv hK (sg_Pc hP) (ci := 8) (q0 := 0) rfl rfl, ct_now (A := (fun q : Nat => s.heap.size ≤ q)) (ev := fun _ => True) (fun _ _ _ => trivial) (sg_Pc hP) (hK.sub (tys' := mo_ty k) [0, 1] rfl) (sg_Dc hD)⟩ rfl rfl hl.1 rfl (lv_room (Nat.le_of_ble_eq_true rfl)) dlaw_411 ⟨Nat.le_of_ble_eq_true rfl, Nat.le_of_ble_eq_true rfl⟩) hP hD hS (fun _ h => h) (fun r3 u3 H locs ht hP hD hS => ?_)
  have hP : va_P (dC, dI) vwCl (lw k b (fun j => j) u.2 (de_D0 X) b2 u2 D2 ob o od u.1) H := by rw [lw_M]; exact hP
  have hD : va_D (fun q : Nat => s.heap.size ≤ q) (lw k b (fun j => j) u.2 (de_D0 X) b2 u2 D2 ob o od u.1) := by rw [lw_M]; exact hD
  subst ht
  have hag := ag_sample (I := de_I0) (D := de_D0 X) (I2 := mo_I0) (D2 := D2) (r2 := r2) (xs 1) 0 (by decide) rfl (fun j hj => absurd hj (Nat.not_lt_zero _)) hc hm
  refine rw_i (y := r) hag.1 ?_
  refine lv_iload hx hb dlaw_414 (lv_at hl 1 rfl) ?_
  refine lv_icmp_eq (tgt := 421) hx hb dlaw_416 (by decide) (fun c416 => ?_) (fun c416 => ?_)
  · refine lv_iload hx hb dlaw_421 (lv_at hl 1 rfl) ?_
    refine lv_if_ne (tgt := 458) hx hb dlaw_423 (by decide) (fun c423 => ?_) (fun c423 => ?_)
    · refine lv_goto (tgt := 1189) hx hb dlaw_458 (by decide) ?_
      exact K _ _ _ hS (lv_sub hl [2, 7] rfl)
    · have hz := hag.2 (show r = nI 0 from c423)
      refine lv_aload hx hb dlaw_426 (lv_at hl 3 rfl) ?_
      refine lv_iconst (v := nI 0) hx hb dlaw_428 (by decide +kernel) ?_
      refine rw_ald_d (k := 0) hx hb hK hP 49 1 rfl rfl (by decide) (by decide) dlaw_429 ?_
      refine rw_d (y := r2) hz ?_
      refine lv_dload hx hb dlaw_430 (lv_at hl 0 rfl) ?_
      refine lv_dcmp hx hb dlaw_432 ?_
      refine lv_if_eq (tgt := 458) hx hb dlaw_433 (by decide) (fun c433 => ?_) (fun c433 => ?_)
      · refine lv_goto (tgt := 1189) hx hb dlaw_458 (by decide) ?_
        exact K _ _ _ hS (lv_sub hl [2, 7] rfl)
      · refine lv_aload hx hb dlaw_436 (lv_at hl 3 rfl) ?_
        refine lv_iconst (v := nI 0) hx hb dlaw_438 (by decide +kernel) ?_
        refine rw_ald_d (k := 0) hx hb hK hP 49 1 rfl rfl (by decide) (by decide) dlaw_439 ?_
        refine rw_d (y := r2) hz ?_
        refine lv_aload hx hb dlaw_440 (lv_at hl 3 rfl) ?_
        refine lv_iconst (v := nI 0) hx hb dlaw_442 (by decide +kernel) ?_
        refine rw_ald_d (k := 0) hx hb hK hP 49 1 rfl rfl (by decide) (by decide) dlaw_443 ?_
        refine rw_d (y := r2) hz ?_
        refine lv_dcmp hx hb dlaw_444 ?_
        refine lv_if_eq (tgt := 456) hx hb dlaw_445 (by decide) (fun c445 => ?_) (fun c445 => ?_)
        · exact absurd c445 c433
        · refine lv_dload hx hb dlaw_448 (lv_at hl 0 rfl) ?_
          refine lv_dload hx hb dlaw_450 (lv_at hl 0 rfl) ?_
          refine lv_dcmp hx hb dlaw_452 ?_
          refine lv_if_ne (tgt := 458) hx hb dlaw_453 (by decide) (fun c453 => ?_) (fun c453 => ?_)
          · refine lv_goto (tgt := 1189) hx hb dlaw_458 (by decide) ?_
            exact K _ _ _ hS (lv_sub hl [2, 7] rfl)
          · exact absurd c453 c433
  · exact absurd rfl c416
set_option maxHeartbeats 4000000 in
set_option maxRecDepth 100000 in
theorem ar_power {p : Program} {e : Env} {s : State} {m : MethodId} {below : List Frame} {meth : Method} {c : Code} {Q : State → Prop} (l : Launch) {sb L : Nat} {xs : Nat → Int32} (hL4 : 4 ≤ L) (hLb : L ≤ 2048) {dC : Nat → ClassId} {dI : Nat → Nat → Nat} {k : Nat → ClassId} (CX : la_cx p l s m c sb L xs dC dI k) {b b2 : Nat → Nat} {X D2 : Nat → Nat → UInt64} {ob od : Nat} {o : Nat → Int64} {q : Nat → UInt64} (FX : la_fx X D2) {H : Heap} {locs : List Loc} {ls : Array Slot} (hP : va_P (dC, dI) vwCl (lw k b (fun j => j) de_I0 (de_D0 X) b2 mo_I0 D2 ob o od q) H) (hD : va_D (fun q : Nat => s.heap.size ≤ q) (lw k b (fun j => j) de_I0 (de_D0 X) b2 mo_I0 D2 ob o od q)) (hS : va_S (fun q : Nat => s.heap.size ≤ q) s.heap H locs) (hl : lv_has ls 9 [(5, .int (nI 0)), (4, .ref od), (3, .ref ob), (2, .ref (b2 0)), (1, .ref (b 0)), (0, .ref sb)]) (K : ∀ (H : Heap) (locs : List Loc) (ls : Array Slot), va_S (fun q : Nat => s.heap.size ≤ q) s.heap H locs → lv_has ls 9 [(5, .int (nI 0)), (0, .ref sb)] → W p l e room_1 s m #[Value.ref sb] below meth c H locs 67 2920 Q (F0 m 1189 ls [])) : W p l e room_1 s m #[Value.ref sb] below meth c H locs 66 2914 Q (F0 m 461 ls []) := by
  obtain ⟨hx, hb, hml, hown, hts, hX, hbl, hK, hE, hln⟩ := CX
  refine lv_aload_n hx hb dlaw_461 rfl (lv_at hl 4 rfl) ?_
  refine lv_aload_n hx hb dlaw_462 rfl (lv_at hl 5 rfl) ?_
  refine lv_iload hx hb dlaw_463 (lv_at hl 0 rfl) ?_
  refine lv_iconst (v := nI 1) hx hb dlaw_465 (by decide +kernel) ?_
  refine lv_iadd hx hb dlaw_466 ?_
  refine rw_i (y := nI 1) rfl ?_
  refine rw_sld (k := 1) hx hb hX hbl (Nat.not_le.mpr hbl) hS (by omega) (by omega) dlaw_467 ?_
  refine lv_aload_n hx hb dlaw_468 rfl (lv_at hl 5 rfl) ?_
  refine lv_iload hx hb dlaw_469 (lv_at hl 0 rfl) ?_
  refine lv_iconst (v := nI 2) hx hb dlaw_471 (by decide +kernel) ?_
  refine lv_iadd hx hb dlaw_472 ?_
  refine rw_i (y := nI 2) rfl ?_
  refine rw_sld (k := 2) hx hb hX hbl (Nat.not_le.mpr hbl) hS (by omega) (by omega) dlaw_473 ?_
  refine lv_aload hx hb dlaw_474 (lv_at hl 1 rfl) ?_
  have hP : va_P (dC, dI) vwCl ([(ob, .inl (k 4, 1, .inr (.inl o)))] ++ ((wd k b (fun j => j) de_I0 (de_D0 X) ++ [(od, .inl (k 1, 1, wd_d q))]) ++ wm k b2 mo_I0 D2)) H := by rw [← lw_D]; exact hP
  have hD : va_D (fun q : Nat => s.heap.size ≤ q) ([(ob, .inl (k 4, 1, .inr (.inl o)))] ++ ((wd k b (fun j => j) de_I0 (de_D0 X) ++ [(od, .inl (k 1, 1, wd_d q))]) ++ wm k b2 mo_I0 D2)) := by rw [← lw_D]; exact hD
  refine sg_i (sw_runS (ws' := []) (n := 4) (As := [.ref (b 0), .int (xs 1), .int (xs 2), .ref od]) (rest := []) ⟨hx, hb, hml, hown, hts⟩ (kLa_power0 l hln dC dI k b (fun j => j) de_I0 (de_D0 X) _ od q (xs 1) (xs 2) 0 (by decide) rfl) rfl rfl (Nat.le_of_ble_eq_true rfl) (Nat.le_of_ble_eq_true rfl) tw_441 tw_440 tw_0 tw_439 (by decide +kernel) ⟨ct_blind (ev := ev_L) ev_L.blind, ct_now (A := (fun q : Nat => s.heap.size ≤ q)) (ev := ev_L) (fun U hU hW9 => hE.to hW9 (st_law hS hU)) (sg_Pc hP) hK (sg_Dc hD)⟩ rfl rfl hl.1 rfl (lv_room (Nat.le_of_ble_eq_true rfl)) dlaw_476 ⟨Nat.le_of_ble_eq_true rfl, Nat.le_of_ble_eq_true rfl⟩) hP hD hS (fun _ h => h) (fun r u H locs hc hP hD hS => ?_)
  have hP : va_P (dC, dI) vwCl (lw k b (fun j => j) u.2 (de_D0 X) b2 mo_I0 D2 ob o od u.1) H := by rw [lw_D]; exact hP
  have hD : va_D (fun q : Nat => s.heap.size ≤ q) (lw k b (fun j => j) u.2 (de_D0 X) b2 mo_I0 D2 ob o od u.1) := by rw [lw_D]; exact hD
  refine lv_istore (lv' := [(6, .int r), (5, .int (nI 0)), (4, .ref od), (3, .ref ob), (2, .ref (b2 0)), (1, .ref (b 0)), (0, .ref sb)]) hx hb dlaw_479 hl (by decide) rfl (fun ls hl => ?_)
  refine lv_aload_n hx hb dlaw_481 rfl (lv_at hl 4 rfl) ?_
  refine lv_aload_n hx hb dlaw_482 rfl (lv_at hl 6 rfl) ?_
  refine lv_iload hx hb dlaw_483 (lv_at hl 1 rfl) ?_
  refine lv_iconst (v := nI 1) hx hb dlaw_485 (by decide +kernel) ?_
  refine lv_iadd hx hb dlaw_486 ?_
  refine rw_i (y := nI 1) rfl ?_
  refine rw_sld (k := 1) hx hb hX hbl (Nat.not_le.mpr hbl) hS (by omega) (by omega) dlaw_487 ?_
  refine lv_aload_n hx hb dlaw_488 rfl (lv_at hl 6 rfl) ?_
  refine lv_iload hx hb dlaw_489 (lv_at hl 1 rfl) ?_
  refine lv_iconst (v := nI 2) hx hb dlaw_491 (by decide +kernel) ?_
  refine lv_iadd hx hb dlaw_492 ?_
  refine rw_i (y := nI 2) rfl ?_
  refine rw_sld (k := 2) hx hb hX hbl (Nat.not_le.mpr hbl) hS (by omega) (by omega) dlaw_493 ?_
  have hP : va_P (dC, dI) vwCl (([(ob, .inl (k 4, 1, .inr (.inl o)))] ++ (wd k b (fun j => j) u.2 (de_D0 X) ++ [(od, .inl (k 1, 1, wd_d u.1))])) ++ (wm k b2 mo_I0 D2 ++ [])) H := by rw [← lw_M]; exact hP
  have hD : va_D (fun q : Nat => s.heap.size ≤ q) (([(ob, .inl (k 4, 1, .inr (.inl o)))] ++ (wd k b (fun j => j) u.2 (de_D0 X) ++ [(od, .inl (k 1, 1, wd_d u.1))])) ++ (wm k b2 mo_I0 D2 ++ [])) := by rw [← lw_M]; exact hD
  refine sg_d (va_runV (As := [.int (xs 1), .int (xs 2)]) (rest := []) ⟨hx, hb, hml, hown, hts⟩ (kMo_power l dC dI k b2 mo_I0 D2 _ (xs 1) (xs 2) 0 (by decide) rfl (fun i hi => absurd hi (Nat.not_lt_zero _)) (fun j hj => (FX.2 j hj).1) (fun j hj => (FX.2 j hj).2)) (cwV 2 hts (gw_V tw_790 tw_791 tw_792 tw_9 tw_793) rfl rfl rfl (by decide +kernel) ⟨Nat.le_of_ble_eq_true rfl, Nat.le_of_ble_eq_true rfl⟩) ⟨ct_blind (ev := fun _ => True) (fun _ _ _ _ h => h), va_recv hK (sg_Pc hP) (ci := 8) (q0 := 0) rfl rfl, ct_now (A := (fun q : Nat => s.heap.size ≤ q)) (ev := fun _ => True) (fun _ _ _ => trivial) (sg_Pc hP) (hK.sub (tys' := mo_ty k) [0, 1] rfl) (sg_Dc hD)⟩ rfl rfl hl.1 rfl (lv_room (Nat.le_of_ble_eq_true rfl)) dlaw_494 ⟨Nat.le_of_ble_eq_true rfl, Nat.le_of_ble_eq_true rfl⟩) hP hD hS (fun _ h => h) (fun r2 u2 H locs hm hP hD hS => ?_)
  have hP : va_P (dC, dI) vwCl (lw k b (fun j => j) u.2 (de_D0 X) b2 u2 D2 ob o od u.1) H := by rw [lw_M]; exact hP
  have hD : va_D (fun q : Nat => s.heap.size ≤ q) (lw k b (fun j => j) u.2 (de_D0 X) b2 u2 D2 ob o od u.1) := by rw [lw_M]; exact hD
  refine lv_dstore (lv' := [(7, .double r2), (6, .int r), (5, .int (nI 0)), (4, .ref od), (3, .ref ob), (2, .ref (b2 0)), (1, .ref (b 0)), (0, .ref sb)]) hx hb dlaw_497 hl (by decide) rfl (fun ls hl => ?_)
  refine lv_aload_n hx hb dlaw_499 rfl (lv_at hl 5 rfl) ?_
  have hP : va_P (dC, dI) vwCl (([(ob, .inl (k 4, 1, .inr (.inl o)))] ++ (wd k b (fun j => j) u.2 (de_D0 X) ++ [(od, .inl (k 1, 1, wd_d u.1))])) ++ (wm k b2 u2 D2 ++ [])) H := by rw [← lw_M]; exact hP
  have hD : va_D (fun q : Nat => s.heap.size ≤ q) (([(ob, .inl (k 4, 1, .inr (.inl o)))] ++ (wd k b (fun j => j) u.2 (de_D0 X) ++ [(od, .inl (k 1, 1, wd_d u.1))])) ++ (wm k b2 u2 D2 ++ [])) := by rw [← lw_M]; exact hD
  refine sg_i (va_runV (As := []) (rest := []) ⟨hx, hb, hml, hown, hts⟩ (kMo_thrown l dC dI k b2 u2 D2 _ ) (cwV 0 hts (gw_V tw_729 tw_730 tw_731 tw_9 tw_732) rfl rfl rfl (by decide +kernel) ⟨Nat.le_of_ble_eq_true rfl, Nat.le_of_ble_eq_true rfl⟩) ⟨ct_blind (ev := fun _ => True) (fun _ _ _ _ h => h), va_recv hK (sg_Pc hP) (ci := 8) (q0 := 0) rfl rfl, ct_now (A := (fun q : Nat => s.heap.size ≤ q)) (ev := fun _ => True) (fun _ _ _ => trivial) (sg_Pc hP) (hK.sub (tys' := mo_ty k) [0, 1] rfl) (sg_Dc hD)⟩ rfl rfl hl.1 rfl (lv_room (Nat.le_of_ble_eq_true rfl)) dlaw_500 ⟨Nat.le_of_ble_eq_true rfl, Nat.le_of_ble_eq_true rfl⟩) hP hD hS (fun _ h => h) (fun r3 u3 H locs ht hP hD hS => ?_)
  have hP : va_P (dC, dI) vwCl (lw k b (fun j => j) u.2 (de_D0 X) b2 u2 D2 ob o od u.1) H := by rw [lw_M]; exact hP
  have hD : va_D (fun q : Nat => s.heap.size ≤ q) (lw k b (fun j => j) u.2 (de_D0 X) b2 u2 D2 ob o od u.1) := by rw [lw_M]; exact hD
  subst ht
  have hag := ag_power (I := de_I0) (D := de_D0 X) (I2 := mo_I0) (D2 := D2) (r2 := r2) (xs 1) (xs 2) 0 (by decide) rfl  hc hm
  refine rw_i (y := r) hag.1 ?_
  refine lv_iload hx hb dlaw_503 (lv_at hl 1 rfl) ?_
  refine lv_icmp_eq (tgt := 510) hx hb dlaw_505 (by decide) (fun c505 => ?_) (fun c505 => ?_)
  · refine lv_iload hx hb dlaw_510 (lv_at hl 1 rfl) ?_
    refine lv_if_ne (tgt := 547) hx hb dlaw_512 (by decide) (fun c512 => ?_) (fun c512 => ?_)
    · refine lv_goto (tgt := 1189) hx hb dlaw_547 (by decide) ?_
      exact K _ _ _ hS (lv_sub hl [2, 7] rfl)
    · have hz := hag.2 (show r = nI 0 from c512)
      refine lv_aload hx hb dlaw_515 (lv_at hl 3 rfl) ?_
      refine lv_iconst (v := nI 0) hx hb dlaw_517 (by decide +kernel) ?_
      refine rw_ald_d (k := 0) hx hb hK hP 49 1 rfl rfl (by decide) (by decide) dlaw_518 ?_
      refine rw_d (y := r2) hz ?_
      refine lv_dload hx hb dlaw_519 (lv_at hl 0 rfl) ?_
      refine lv_dcmp hx hb dlaw_521 ?_
      refine lv_if_eq (tgt := 547) hx hb dlaw_522 (by decide) (fun c522 => ?_) (fun c522 => ?_)
      · refine lv_goto (tgt := 1189) hx hb dlaw_547 (by decide) ?_
        exact K _ _ _ hS (lv_sub hl [2, 7] rfl)
      · refine lv_aload hx hb dlaw_525 (lv_at hl 3 rfl) ?_
        refine lv_iconst (v := nI 0) hx hb dlaw_527 (by decide +kernel) ?_
        refine rw_ald_d (k := 0) hx hb hK hP 49 1 rfl rfl (by decide) (by decide) dlaw_528 ?_
        refine rw_d (y := r2) hz ?_
        refine lv_aload hx hb dlaw_529 (lv_at hl 3 rfl) ?_
        refine lv_iconst (v := nI 0) hx hb dlaw_531 (by decide +kernel) ?_
        refine rw_ald_d (k := 0) hx hb hK hP 49 1 rfl rfl (by decide) (by decide) dlaw_532 ?_
        refine rw_d (y := r2) hz ?_
        refine lv_dcmp hx hb dlaw_533 ?_
        refine lv_if_eq (tgt := 545) hx hb dlaw_534 (by decide) (fun c534 => ?_) (fun c534 => ?_)
        · exact absurd c534 c522
        · refine lv_dload hx hb dlaw_537 (lv_at hl 0 rfl) ?_
          refine lv_dload hx hb dlaw_539 (lv_at hl 0 rfl) ?_
          refine lv_dcmp hx hb dlaw_541 ?_
          refine lv_if_ne (tgt := 547) hx hb dlaw_542 (by decide) (fun c542 => ?_) (fun c542 => ?_)
          · refine lv_goto (tgt := 1189) hx hb dlaw_547 (by decide) ?_
            exact K _ _ _ hS (lv_sub hl [2, 7] rfl)
          · exact absurd c542 c522
  · exact absurd rfl c505
set_option maxHeartbeats 4000000 in
set_option maxRecDepth 100000 in
theorem ar_level {p : Program} {e : Env} {s : State} {m : MethodId} {below : List Frame} {meth : Method} {c : Code} {Q : State → Prop} (l : Launch) {sb L : Nat} {xs : Nat → Int32} (hL4 : 4 ≤ L) (hLb : L ≤ 2048) {dC : Nat → ClassId} {dI : Nat → Nat → Nat} {k : Nat → ClassId} (CX : la_cx p l s m c sb L xs dC dI k) {b b2 : Nat → Nat} {X D2 : Nat → Nat → UInt64} {ob od : Nat} {o : Nat → Int64} {q : Nat → UInt64} (FX : la_fx X D2) {H : Heap} {locs : List Loc} {ls : Array Slot} (hP : va_P (dC, dI) vwCl (lw k b (fun j => j) de_I0 (de_D0 X) b2 mo_I0 D2 ob o od q) H) (hD : va_D (fun q : Nat => s.heap.size ≤ q) (lw k b (fun j => j) de_I0 (de_D0 X) b2 mo_I0 D2 ob o od q)) (hS : va_S (fun q : Nat => s.heap.size ≤ q) s.heap H locs) (hl : lv_has ls 9 [(5, .int (nI 0)), (4, .ref od), (3, .ref ob), (2, .ref (b2 0)), (1, .ref (b 0)), (0, .ref sb)]) (K : ∀ (H : Heap) (locs : List Loc) (ls : Array Slot), va_S (fun q : Nat => s.heap.size ≤ q) s.heap H locs → lv_has ls 9 [(5, .int (nI 0)), (0, .ref sb)] → W p l e room_1 s m #[Value.ref sb] below meth c H locs 67 2920 Q (F0 m 1189 ls [])) : W p l e room_1 s m #[Value.ref sb] below meth c H locs 66 2914 Q (F0 m 550 ls []) := by
  obtain ⟨hx, hb, hml, hown, hts, hX, hbl, hK, hE, hln⟩ := CX
  refine lv_aload_n hx hb dlaw_550 rfl (lv_at hl 4 rfl) ?_
  refine lv_aload_n hx hb dlaw_551 rfl (lv_at hl 5 rfl) ?_
  refine lv_iload hx hb dlaw_552 (lv_at hl 0 rfl) ?_
  refine lv_iconst (v := nI 1) hx hb dlaw_554 (by decide +kernel) ?_
  refine lv_iadd hx hb dlaw_555 ?_
  refine rw_i (y := nI 1) rfl ?_
  refine rw_sld (k := 1) hx hb hX hbl (Nat.not_le.mpr hbl) hS (by omega) (by omega) dlaw_556 ?_
  refine lv_aload_n hx hb dlaw_557 rfl (lv_at hl 5 rfl) ?_
  refine lv_iload hx hb dlaw_558 (lv_at hl 0 rfl) ?_
  refine lv_iconst (v := nI 2) hx hb dlaw_560 (by decide +kernel) ?_
  refine lv_iadd hx hb dlaw_561 ?_
  refine rw_i (y := nI 2) rfl ?_
  refine rw_sld (k := 2) hx hb hX hbl (Nat.not_le.mpr hbl) hS (by omega) (by omega) dlaw_562 ?_
  refine lv_aload hx hb dlaw_563 (lv_at hl 1 rfl) ?_
  have hP : va_P (dC, dI) vwCl ([(ob, .inl (k 4, 1, .inr (.inl o)))] ++ ((wd k b (fun j => j) de_I0 (de_D0 X) ++ [(od, .inl (k 1, 1, wd_d q))]) ++ wm k b2 mo_I0 D2)) H := by rw [← lw_D]; exact hP
  have hD : va_D (fun q : Nat => s.heap.size ≤ q) ([(ob, .inl (k 4, 1, .inr (.inl o)))] ++ ((wd k b (fun j => j) de_I0 (de_D0 X) ++ [(od, .inl (k 1, 1, wd_d q))]) ++ wm k b2 mo_I0 D2)) := by rw [← lw_D]; exact hD
  refine sg_i (sw_runS (ws' := []) (n := 4) (As := [.ref (b 0), .int (xs 1), .int (xs 2), .ref od]) (rest := []) ⟨hx, hb, hml, hown, hts⟩ (kLa_level0 l hln dC dI k b (fun j => j) de_I0 (de_D0 X) _ od q (xs 1) (xs 2) 0 (by decide) rfl) rfl rfl (Nat.le_of_ble_eq_true rfl) (Nat.le_of_ble_eq_true rfl) tw_463 tw_462 tw_0 tw_461 (by decide +kernel) ⟨ct_blind (ev := ev_L) ev_L.blind, ct_now (A := (fun q : Nat => s.heap.size ≤ q)) (ev := ev_L) (fun U hU hW9 => hE.to hW9 (st_law hS hU)) (sg_Pc hP) hK (sg_Dc hD)⟩ rfl rfl hl.1 rfl (lv_room (Nat.le_of_ble_eq_true rfl)) dlaw_565 ⟨Nat.le_of_ble_eq_true rfl, Nat.le_of_ble_eq_true rfl⟩) hP hD hS (fun _ h => h) (fun r u H locs hc hP hD hS => ?_)
  have hP : va_P (dC, dI) vwCl (lw k b (fun j => j) u.2 (de_D0 X) b2 mo_I0 D2 ob o od u.1) H := by rw [lw_D]; exact hP
  have hD : va_D (fun q : Nat => s.heap.size ≤ q) (lw k b (fun j => j) u.2 (de_D0 X) b2 mo_I0 D2 ob o od u.1) := by rw [lw_D]; exact hD
  refine lv_istore (lv' := [(6, .int r), (5, .int (nI 0)), (4, .ref od), (3, .ref ob), (2, .ref (b2 0)), (1, .ref (b 0)), (0, .ref sb)]) hx hb dlaw_568 hl (by decide) rfl (fun ls hl => ?_)
  refine lv_aload_n hx hb dlaw_570 rfl (lv_at hl 4 rfl) ?_
  refine lv_aload_n hx hb dlaw_571 rfl (lv_at hl 6 rfl) ?_
  refine lv_iload hx hb dlaw_572 (lv_at hl 1 rfl) ?_
  refine lv_iconst (v := nI 1) hx hb dlaw_574 (by decide +kernel) ?_
  refine lv_iadd hx hb dlaw_575 ?_
  refine rw_i (y := nI 1) rfl ?_
  refine rw_sld (k := 1) hx hb hX hbl (Nat.not_le.mpr hbl) hS (by omega) (by omega) dlaw_576 ?_
  refine lv_aload_n hx hb dlaw_577 rfl (lv_at hl 6 rfl) ?_
  refine lv_iload hx hb dlaw_578 (lv_at hl 1 rfl) ?_
  refine lv_iconst (v := nI 2) hx hb dlaw_580 (by decide +kernel) ?_
  refine lv_iadd hx hb dlaw_581 ?_
  refine rw_i (y := nI 2) rfl ?_
  refine rw_sld (k := 2) hx hb hX hbl (Nat.not_le.mpr hbl) hS (by omega) (by omega) dlaw_582 ?_
  have hP : va_P (dC, dI) vwCl (([(ob, .inl (k 4, 1, .inr (.inl o)))] ++ (wd k b (fun j => j) u.2 (de_D0 X) ++ [(od, .inl (k 1, 1, wd_d u.1))])) ++ (wm k b2 mo_I0 D2 ++ [])) H := by rw [← lw_M]; exact hP
  have hD : va_D (fun q : Nat => s.heap.size ≤ q) (([(ob, .inl (k 4, 1, .inr (.inl o)))] ++ (wd k b (fun j => j) u.2 (de_D0 X) ++ [(od, .inl (k 1, 1, wd_d u.1))])) ++ (wm k b2 mo_I0 D2 ++ [])) := by rw [← lw_M]; exact hD
  refine sg_d (va_runV (As := [.int (xs 1), .int (xs 2)]) (rest := []) ⟨hx, hb, hml, hown, hts⟩ (kMo_level l dC dI k b2 mo_I0 D2 _ (xs 1) (xs 2) 0 (by decide) rfl (fun i hi => absurd hi (Nat.not_lt_zero _)) (fun j hj => (FX.2 j hj).1) (fun j hj => (FX.2 j hj).2)) (cwV 2 hts (gw_V tw_803 tw_804 tw_805 tw_9 tw_806) rfl rfl rfl (by decide +kernel) ⟨Nat.le_of_ble_eq_true rfl, Nat.le_of_ble_eq_true rfl⟩) ⟨ct_blind (ev := fun _ => True) (fun _ _ _ _ h => h), va_recv hK (sg_Pc hP) (ci := 8) (q0 := 0) rfl rfl, ct_now (A := (fun q : Nat => s.heap.size ≤ q)) (ev := fun _ => True) (fun _ _ _ => trivial) (sg_Pc hP) (hK.sub (tys' := mo_ty k) [0, 1] rfl) (sg_Dc hD)⟩ rfl rfl hl.1 rfl (lv_room (Nat.le_of_ble_eq_true rfl)) dlaw_583 ⟨Nat.le_of_ble_eq_true rfl, Nat.le_of_ble_eq_true rfl⟩) hP hD hS (fun _ h => h) (fun r2 u2 H locs hm hP hD hS => ?_)
  have hP : va_P (dC, dI) vwCl (lw k b (fun j => j) u.2 (de_D0 X) b2 u2 D2 ob o od u.1) H := by rw [lw_M]; exact hP
  have hD : va_D (fun q : Nat => s.heap.size ≤ q) (lw k b (fun j => j) u.2 (de_D0 X) b2 u2 D2 ob o od u.1) := by rw [lw_M]; exact hD
  refine lv_dstore (lv' := [(7, .double r2), (6, .int r), (5, .int (nI 0)), (4, .ref od), (3, .ref ob), (2, .ref (b2 0)), (1, .ref (b 0)), (0, .ref sb)]) hx hb dlaw_586 hl (by decide) rfl (fun ls hl => ?_)
  refine lv_aload_n hx hb dlaw_588 rfl (lv_at hl 5 rfl) ?_
  have hP : va_P (dC, dI) vwCl (([(ob, .inl (k 4, 1, .inr (.inl o)))] ++ (wd k b (fun j => j) u.2 (de_D0 X) ++ [(od, .inl (k 1, 1, wd_d u.1))])) ++ (wm k b2 u2 D2 ++ [])) H := by rw [← lw_M]; exact hP
  have hD : va_D (fun q : Nat => s.heap.size ≤ q) (([(ob, .inl (k 4, 1, .inr (.inl o)))] ++ (wd k b (fun j => j) u.2 (de_D0 X) ++ [(od, .inl (k 1, 1, wd_d u.1))])) ++ (wm k b2 u2 D2 ++ [])) := by rw [← lw_M]; exact hD
  refine sg_i (va_runV (As := []) (rest := []) ⟨hx, hb, hml, hown, hts⟩ (kMo_thrown l dC dI k b2 u2 D2 _ ) (cwV 0 hts (gw_V tw_729 tw_730 tw_731 tw_9 tw_732) rfl rfl rfl (by decide +kernel) ⟨Nat.le_of_ble_eq_true rfl, Nat.le_of_ble_eq_true rfl⟩) ⟨ct_blind (ev := fun _ => True) (fun _ _ _ _ h => h), va_recv hK (sg_Pc hP) (ci := 8) (q0 := 0) rfl rfl, ct_now (A := (fun q : Nat => s.heap.size ≤ q)) (ev := fun _ => True) (fun _ _ _ => trivial) (sg_Pc hP) (hK.sub (tys' := mo_ty k) [0, 1] rfl) (sg_Dc hD)⟩ rfl rfl hl.1 rfl (lv_room (Nat.le_of_ble_eq_true rfl)) dlaw_589 ⟨Nat.le_of_ble_eq_true rfl, Nat.le_of_ble_eq_true rfl⟩) hP hD hS (fun _ h => h) (fun r3 u3 H locs ht hP hD hS => ?_)
  have hP : va_P (dC, dI) vwCl (lw k b (fun j => j) u.2 (de_D0 X) b2 u2 D2 ob o od u.1) H := by rw [lw_M]; exact hP
  have hD : va_D (fun q : Nat => s.heap.size ≤ q) (lw k b (fun j => j) u.2 (de_D0 X) b2 u2 D2 ob o od u.1) := by rw [lw_M]; exact hD
  subst ht
  have hag := ag_level (I := de_I0) (D := de_D0 X) (I2 := mo_I0) (D2 := D2) (r2 := r2) (xs 1) (xs 2) 0 (by decide) rfl  hc hm
  refine rw_i (y := r) hag.1 ?_
  refine lv_iload hx hb dlaw_592 (lv_at hl 1 rfl) ?_
  refine lv_icmp_eq (tgt := 599) hx hb dlaw_594 (by decide) (fun c594 => ?_) (fun c594 => ?_)
  · refine lv_iload hx hb dlaw_599 (lv_at hl 1 rfl) ?_
    refine lv_if_ne (tgt := 636) hx hb dlaw_601 (by decide) (fun c601 => ?_) (fun c601 => ?_)
    · refine lv_goto (tgt := 1189) hx hb dlaw_636 (by decide) ?_
      exact K _ _ _ hS (lv_sub hl [2, 7] rfl)
    · have hz := hag.2 (show r = nI 0 from c601)
      refine lv_aload hx hb dlaw_604 (lv_at hl 3 rfl) ?_
      refine lv_iconst (v := nI 0) hx hb dlaw_606 (by decide +kernel) ?_
      refine rw_ald_d (k := 0) hx hb hK hP 49 1 rfl rfl (by decide) (by decide) dlaw_607 ?_
      refine rw_d (y := r2) hz ?_
      refine lv_dload hx hb dlaw_608 (lv_at hl 0 rfl) ?_
      refine lv_dcmp hx hb dlaw_610 ?_
      refine lv_if_eq (tgt := 636) hx hb dlaw_611 (by decide) (fun c611 => ?_) (fun c611 => ?_)
      · refine lv_goto (tgt := 1189) hx hb dlaw_636 (by decide) ?_
        exact K _ _ _ hS (lv_sub hl [2, 7] rfl)
      · refine lv_aload hx hb dlaw_614 (lv_at hl 3 rfl) ?_
        refine lv_iconst (v := nI 0) hx hb dlaw_616 (by decide +kernel) ?_
        refine rw_ald_d (k := 0) hx hb hK hP 49 1 rfl rfl (by decide) (by decide) dlaw_617 ?_
        refine rw_d (y := r2) hz ?_
        refine lv_aload hx hb dlaw_618 (lv_at hl 3 rfl) ?_
        refine lv_iconst (v := nI 0) hx hb dlaw_620 (by decide +kernel) ?_
        refine rw_ald_d (k := 0) hx hb hK hP 49 1 rfl rfl (by decide) (by decide) dlaw_621 ?_
        refine rw_d (y := r2) hz ?_
        refine lv_dcmp hx hb dlaw_622 ?_
        refine lv_if_eq (tgt := 634) hx hb dlaw_623 (by decide) (fun c623 => ?_) (fun c623 => ?_)
        · exact absurd c623 c611
        · refine lv_dload hx hb dlaw_626 (lv_at hl 0 rfl) ?_
          refine lv_dload hx hb dlaw_628 (lv_at hl 0 rfl) ?_
          refine lv_dcmp hx hb dlaw_630 ?_
          refine lv_if_ne (tgt := 636) hx hb dlaw_631 (by decide) (fun c631 => ?_) (fun c631 => ?_)
          · refine lv_goto (tgt := 1189) hx hb dlaw_636 (by decide) ?_
            exact K _ _ _ hS (lv_sub hl [2, 7] rfl)
          · exact absurd c631 c611
  · exact absurd rfl c594
