set_option maxHeartbeats 4000000 in
set_option maxRecDepth 100000 in
theorem la_end {p : Program} {l : Launch} {e : Env} {s : State} {m : MethodId} {below : List Frame} {meth : Method} {c : Code} {sb L : Nat} {xs : Nat → Int32} (C0 : lw_At p s m meth c sb L xs) {H : Heap} {locs : List Loc} {ls : Array Slot} {cells slots : Nat} (hc : cells ≤ 601024) (hs : slots ≤ 7293034) (hS : va_S (fun q : Nat => s.heap.size ≤ q) s.heap H locs) : W p l e room_1 s m #[Value.ref sb] below meth c H locs cells slots (lw_Z below #[Value.ref sb] s) (F0 m 768 ls []) := by
  obtain ⟨hx, hb, hr, hml, hown, hts, hX, hbl, hlocks, hgv⟩ := id C0
  refine lv_iconst (v := 1) hx hb dlaw_768 (by decide +kernel) ?_
  refine va_forget (fun q hq => hS.2.2 q hq) ?_
  refine W.widen hc hs ?_
  exact lw_ret hx hb hr hlocks dlaw_769
set_option maxHeartbeats 8000000 in
set_option maxRecDepth 100000 in
theorem la_loop {p : Program} {e : Env} {s : State} {m : MethodId} {below : List Frame} {meth : Method} {c : Code} (l : Launch) {sb L : Nat} {xs : Nat → Int32} (hLb : L ≤ 2048) (C0 : lw_At p s m meth c sb L xs) {dC : Nat → ClassId} {dI : Nat → Nat → Nat} {k : Nat → ClassId} (CX : la_cx p l s m c sb L xs dC dI k) {b b2 : Nat → Nat} {ob od : Nat} : ∀ (dd t : Nat), L < 4 * t + 4 * dd → 4 * t ≤ 4096 → ∀ (P : Nat → Nat) (I : Nat → Nat → Int32) (D : Nat → Nat → UInt64) (I2 : Nat → Nat → Int32) (D2 : Nat → Nat → UInt64) (o : Nat → Int64) (q : Nat → UInt64) (H : Heap) (locs : List Loc) (ls : Array Slot), rx P I D I2 D2 → va_P (dC, dI) vwCl (lw k b P I D b2 I2 D2 ob o od q) H → va_D (fun q : Nat => s.heap.size ≤ q) (lw k b P I D b2 I2 D2 ob o od q) → va_S (fun q : Nat => s.heap.size ≤ q) s.heap H locs → lv_has ls 9 [(5, .int (nI (4 * t))), (4, .ref od), (3, .ref ob), (2, .ref (b2 0)), (1, .ref (b 0)), (0, .ref sb)] → W p l e room_1 s m #[Value.ref sb] below meth c H locs (66 + t) (2914 + 6 * t) (lw_Z below #[Value.ref sb] s) (F0 m 28 ls []) := by
  obtain ⟨hx, hb, hml, hown, hts, hX, hbl, hK, hE, hln⟩ := id CX
  intro dd
  induction dd with
  | zero =>
    intro t hd ht P I D I2 D2 o q H locs ls RX hP hD hS hl
    refine lv_iload hx hb dlaw_28 (lv_at hl 0 rfl) ?_
    refine lv_aload_n hx hb dlaw_30 rfl (lv_at hl 5 rfl) ?_
    refine va_slen hx hb hX hbl (Nat.not_le.mpr hbl) hS dlaw_31 ?_
    refine lv_iconst (v := nI 4) hx hb dlaw_32 (by decide +kernel) ?_
    refine lv_isub hx hb dlaw_33 ?_
    refine lv_icmp_gt (tgt := 768) hx hb dlaw_34 (by decide) (fun c34 => ?_) (fun c34 => ?_)
    · exact la_end C0 (by omega) (by omega) hS
    · have hL4 : 4 * t + 4 ≤ L := by
        have h9 := Int32.le_iff_toInt_le.mp (Int32.not_lt.mp c34)
        have h8 : (nI L - nI 4).toInt = (L : Int) - 4 := pk_sub_toInt (by omega) (by decide)
        have h7 : (nI (4 * t)).toInt = ((4 * t : Nat) : Int) := nI_toInt (by omega)
        have h6 : (nI (4 * t)).toInt ≤ (nI L - nI 4).toInt := h9
        rw [h7, h8] at h6
        omega
      omega
  | succ dd ih =>
    intro t hd ht P I D I2 D2 o q H locs ls RX hP hD hS hl
    refine lv_iload hx hb dlaw_28 (lv_at hl 0 rfl) ?_
    refine lv_aload_n hx hb dlaw_30 rfl (lv_at hl 5 rfl) ?_
    refine va_slen hx hb hX hbl (Nat.not_le.mpr hbl) hS dlaw_31 ?_
    refine lv_iconst (v := nI 4) hx hb dlaw_32 (by decide +kernel) ?_
    refine lv_isub hx hb dlaw_33 ?_
    refine lv_icmp_gt (tgt := 768) hx hb dlaw_34 (by decide) (fun c34 => ?_) (fun c34 => ?_)
    · exact la_end C0 (by omega) (by omega) hS
    · have hL4 : 4 * t + 4 ≤ L := by
        have h9 := Int32.le_iff_toInt_le.mp (Int32.not_lt.mp c34)
        have h8 : (nI L - nI 4).toInt = (L : Int) - 4 := pk_sub_toInt (by omega) (by decide)
        have h7 : (nI (4 * t)).toInt = ((4 * t : Nat) : Int) := nI_toInt (by omega)
        have h6 : (nI (4 * t)).toInt ≤ (nI L - nI 4).toInt := h9
        rw [h7, h8] at h6
        omega
      have K : ∀ (P : Nat → Nat) (I : Nat → Nat → Int32) (D : Nat → Nat → UInt64) (I2 : Nat → Nat → Int32) (D2 : Nat → Nat → UInt64) (o : Nat → Int64) (q : Nat → UInt64) (H : Heap) (locs : List Loc) (ls : Array Slot), rx P I D I2 D2 → va_P (dC, dI) vwCl (lw k b P I D b2 I2 D2 ob o od q) H → va_D (fun q : Nat => s.heap.size ≤ q) (lw k b P I D b2 I2 D2 ob o od q) → va_S (fun q : Nat => s.heap.size ≤ q) s.heap H locs → lv_has ls 9 [(5, .int (nI (4 * t))), (4, .ref od), (3, .ref ob), (2, .ref (b2 0)), (1, .ref (b 0)), (0, .ref sb)] → W p l e room_1 s m #[Value.ref sb] below meth c H locs (66 + t + 1) (2914 + 6 * t + 6) (lw_Z below #[Value.ref sb] s) (F0 m 762 ls []) := by
        intro P I D I2 D2 o q H locs ls RX hP hD hS hl
        refine lv_iinc (v := nI (4 * (t + 1))) (lv' := [(5, .int (nI (4 * (t + 1)))), (4, .ref od), (3, .ref ob), (2, .ref (b2 0)), (1, .ref (b 0)), (0, .ref sb)]) hx hb dlaw_762 hl (k := 0) rfl (nI_add (4 * t) 4) (by decide) rfl (fun ls hl => ?_)
        refine lv_goto (tgt := 28) hx hb dlaw_765 (by decide) ?_
        exact ih (t + 1) (by omega) (by omega) P I D I2 D2 o q H locs ls RX hP hD hS hl
      refine lv_aload_n hx hb dlaw_37 rfl (lv_at hl 5 rfl) ?_
      refine lv_iload hx hb dlaw_38 (lv_at hl 0 rfl) ?_
      refine rw_sld (k := 4 * t) hx hb hX hbl (Nat.not_le.mpr hbl) hS (by omega) (by omega) dlaw_40 ?_
      refine lv_bipush (v := nI 15) hx hb dlaw_41 (by decide +kernel) ?_
      refine lv_iand hx hb dlaw_43 ?_
      obtain ⟨j, hj, ej⟩ := pk_andE (xs (4 * t)) (m := nI 15) 4 (by decide)
      refine rw_i (y := nI j) ej ?_
      rcases (show j = 0 ∨ j = 1 ∨ j = 2 ∨ j = 3 ∨ j = 4 ∨ j = 5 ∨ j = 6 ∨ j = 7 ∨ j = 8 ∨ j = 9 ∨ j = 10 ∨ j = 11 ∨ j = 12 ∨ j = 13 ∨ j = 14 ∨ j = 15 by omega) with rfl | rfl | rfl | rfl | rfl | rfl | rfl | rfl | rfl | rfl | rfl | rfl | rfl | rfl | rfl | rfl
      · refine lv_tableIn (off := 80) (tgt := 124) hx hb dlaw_44 (by decide +kernel) (by decide +kernel) (by decide +kernel) (by decide) ?_
        exact ar_octets l t hL4 hLb CX RX (by omega) (by omega) hP hD hS hl K
      · refine lv_tableIn (off := 152) (tgt := 196) hx hb dlaw_44 (by decide +kernel) (by decide +kernel) (by decide +kernel) (by decide) ?_
        exact ar_read l t hL4 hLb CX RX (by omega) (by omega) hP hD hS hl K
      · refine lv_tableIn (off := 168) (tgt := 212) hx hb dlaw_44 (by decide +kernel) (by decide +kernel) (by decide +kernel) (by decide) ?_
        exact ar_place l t hL4 hLb CX RX (by omega) (by omega) hP hD hS hl K
      · refine lv_tableIn (off := 181) (tgt := 225) hx hb dlaw_44 (by decide +kernel) (by decide +kernel) (by decide +kernel) (by decide) ?_
        exact ar_wave l t hL4 hLb CX RX (by omega) (by omega) hP hD hS hl K
      · refine lv_tableIn (off := 243) (tgt := 287) hx hb dlaw_44 (by decide +kernel) (by decide +kernel) (by decide +kernel) (by decide) ?_
        exact ar_clear l t hL4 hLb CX RX (by omega) (by omega) hP hD hS hl K
      · refine lv_tableIn (off := 256) (tgt := 300) hx hb dlaw_44 (by decide +kernel) (by decide +kernel) (by decide +kernel) (by decide) ?_
        exact ar_sample l t hL4 hLb CX RX (by omega) (by omega) hP hD hS hl K
      · refine lv_tableIn (off := 285) (tgt := 329) hx hb dlaw_44 (by decide +kernel) (by decide +kernel) (by decide +kernel) (by decide) ?_
        exact ar_power l t hL4 hLb CX RX (by omega) (by omega) hP hD hS hl K
      · refine lv_tableIn (off := 326) (tgt := 370) hx hb dlaw_44 (by decide +kernel) (by decide +kernel) (by decide +kernel) (by decide) ?_
        exact ar_level l t hL4 hLb CX RX (by omega) (by omega) hP hD hS hl K
      · refine lv_tableIn (off := 415) (tgt := 459) hx hb dlaw_44 (by decide +kernel) (by decide +kernel) (by decide +kernel) (by decide) ?_
        exact ar_ways l t hL4 hLb CX RX (by omega) (by omega) hP hD hS hl K
      · refine lv_tableIn (off := 484) (tgt := 528) hx hb dlaw_44 (by decide +kernel) (by decide +kernel) (by decide +kernel) (by decide) ?_
        exact ar_learn l t hL4 hLb CX RX (by omega) (by omega) hP hD hS hl K
      · refine lv_tableIn (off := 536) (tgt := 580) hx hb dlaw_44 (by decide +kernel) (by decide +kernel) (by decide +kernel) (by decide) ?_
        exact ar_forget l t hL4 hLb CX RX (by omega) (by omega) hP hD hS hl K
      · refine lv_tableIn (off := 564) (tgt := 608) hx hb dlaw_44 (by decide +kernel) (by decide +kernel) (by decide +kernel) (by decide) ?_
        exact ar_warp l t hL4 hLb CX RX (by omega) (by omega) hP hD hS hl K
      · refine lv_tableIn (off := 605) (tgt := 649) hx hb dlaw_44 (by decide +kernel) (by decide +kernel) (by decide +kernel) (by decide) ?_
        exact ar_hear l t hL4 hLb CX RX (by omega) (by omega) hP hD hS hl K
      · refine lv_tableIn (off := 621) (tgt := 665) hx hb dlaw_44 (by decide +kernel) (by decide +kernel) (by decide +kernel) (by decide) ?_
        exact ar_word l t hL4 hLb CX RX (by omega) (by omega) hP hD hS hl K
      · refine lv_tableIn (off := 661) (tgt := 705) hx hb dlaw_44 (by decide +kernel) (by decide +kernel) (by decide +kernel) (by decide) ?_
        exact ar_cost l t hL4 hLb CX RX (by omega) (by omega) hP hD hS hl K
      · refine lv_tableIn (off := 690) (tgt := 734) hx hb dlaw_44 (by decide +kernel) (by decide +kernel) (by decide +kernel) (by decide) ?_
        exact ar_count l t hL4 hLb CX RX (by omega) (by omega) hP hD hS hl K
