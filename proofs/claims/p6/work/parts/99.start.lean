set_option maxHeartbeats 8000000 in
set_option maxRecDepth 100000 in
theorem law_all {p : Program} {e : Env} {s : State} {m : MethodId} {below : List Frame} {meth : Method} {c : Code} (l : Launch) (hln : l.stackTraces = false) {b L : Nat} {xs : Nat → Int32} (hL : L ≤ 2048) (C0 : lw_At p s m meth c b L xs) : W p l e room_1 s m #[Value.ref b] below meth c s.heap [] 0 0 (lw_Z below #[Value.ref b] s) (entryFrame m ([Value.ref b] : List Value).toArray 9) := by
  obtain ⟨hx, hb, hr, hml, hown, htt, hX, hbl, hlocks, hgv⟩ := id C0
  obtain ⟨dC, dI, k, hK⟩ := la_K htt
  obtain ⟨hE, hEA⟩ := la_E htt hgv
  have hts : ∀ w ∈ W0, w.before #[Value.ref b] s = true := fun w h => htt w (W0_ok w h)
  have hA : ∀ q : Nat, s.heap.size ≤ q → (fun q : Nat => s.heap.size ≤ q) q := fun _ h => h
  have hS : va_S (fun q : Nat => s.heap.size ≤ q) s.heap s.heap [] := va_S.rf
  have hP : va_P (dC, dI) vwCl [] s.heap := fun k q h => by simp at h
  have hD : va_D (fun q : Nat => s.heap.size ≤ q) [] := ⟨fun i j p q h => by simp at h, fun k q h => by simp at h⟩
  have hl := lv_entry ([.ref b]) (n := 9) (Nat.le_of_ble_eq_true rfl)
  rw [lg_entry_eq]
  generalize (lg_sl ([.ref b]) ++ List.replicate (9 - (lg_sl ([.ref b])).length) Slot.unset).toArray = ls at hl ⊢
  have hl : lv_has ls 9 [(0, .ref b)] := hl
  refine va_new (ci := 7) (fs := [.null, .null, .null, .null, .null, .int 0, .int 0, .double 0, .int 0, .double 0]) (C := RDe) (T := TDe) (N := 10) hx hb hts inDe tyDe tyDe_ok hown (hts _ tw_19) (hts _ tw_20) (hts _ tw_1) hK hP hD hS hA rfl (fun j hj => by rcases (show j = 0 ∨ j = 1 ∨ j = 2 ∨ j = 3 ∨ j = 4 ∨ j = 5 ∨ j = 6 ∨ j = 7 ∨ j = 8 ∨ j = 9 by omega) with rfl | rfl | rfl | rfl | rfl | rfl | rfl | rfl | rfl | rfl <;> rfl) (Nat.le_of_ble_eq_true rfl) (Nat.le_of_ble_eq_true rfl) dlaw_0 (fun qa H hP hD hS => ?_)
  refine W.widen (k := 1) (n := 10) (by omega) (by omega) ?_
  refine lv_dup hx hb dlaw_3 rfl ?_
  have hP : va_P (dC, dI) vwCl ([] ++ ([(qa, .inr (7, [.null, .null, .null, .null, .null, .int 0, .int 0, .double 0, .int 0, .double 0]))] ++ [])) H := hP
  have hD : va_D (fun q : Nat => s.heap.size ≤ q) ([] ++ ([(qa, .inr (7, [.null, .null, .null, .null, .null, .int 0, .int 0, .double 0, .int 0, .double 0]))] ++ [])) := hD
  refine sg_v (va_runI (As := []) (rest := [.ref qa]) ⟨hx, hb, hml, hown, hts⟩ (kDe_init l dC dI k _ qa) (cwI 0 hts (gw_I tw_23) rfl rfl rfl (hts _ tw_1) (hts _ tw_21) (hts _ tw_22) rfl (by decide +kernel) ⟨Nat.le_of_ble_eq_true rfl, Nat.le_of_ble_eq_true rfl⟩) ⟨ct_blind (ev := ev_A) (fun U _ _ _ h => h.moved (Vm.Alike.refl U.vm)), ct_now (A := (fun q : Nat => s.heap.size ≤ q)) (ev := ev_A) (fun U _ hW => hEA.moved hW.alike) (sg_Pc hP) (hK.sub (tys' := de_ty k) [0, 1, 2, 3] rfl) (sg_Dc hD)⟩ rfl rfl hl.1 rfl (lv_room (Nat.le_of_ble_eq_true rfl)) dlaw_4 ⟨Nat.le_of_ble_eq_true rfl, Nat.le_of_ble_eq_true rfl⟩) hP hD hS hA (fun u H locs hwu hP2 hD2 hS2 => ?_)
  refine W.widen (k := 48) (n := 1437) (by omega) (by omega) ?_
  obtain ⟨eu, fu⟩ := hwu
  subst eu
  have hP : va_P (dC, dI) vwCl (wd k u.1 (fun j => j) de_I0 (de_D0 u.2)) H := by rw [List.append_nil] at hP2; exact hP2
  have hD : va_D (fun q : Nat => s.heap.size ≤ q) (wd k u.1 (fun j => j) de_I0 (de_D0 u.2)) := by rw [List.append_nil] at hD2; exact hD2
  have hS := hS2
  refine lv_astore_n (lv' := [(1, .ref (u.1 0)), (0, .ref b)]) hx hb dlaw_7 rfl hl (by decide) rfl (fun ls hl => ?_)
  refine va_new (ci := 8) (fs := [.int 0, .int 0, .int 0, .int 0, .int 0, .int 0, .int 0, .int 0, .int 0, .int 0, .double 0, .double 0, .null, .null, .null, .null, .null, .null, .null, .null, .null, .null, .null, .null, .null, .null, .null]) (C := RMo) (T := TMo) (N := 27) hx hb hts inMo tyMo tyMo_ok hown (hts _ tw_638) (hts _ tw_639) (hts _ tw_9) hK hP hD hS hA rfl (fun j hj => by rcases (show j = 0 ∨ j = 1 ∨ j = 2 ∨ j = 3 ∨ j = 4 ∨ j = 5 ∨ j = 6 ∨ j = 7 ∨ j = 8 ∨ j = 9 ∨ j = 10 ∨ j = 11 ∨ j = 12 ∨ j = 13 ∨ j = 14 ∨ j = 15 ∨ j = 16 ∨ j = 17 ∨ j = 18 ∨ j = 19 ∨ j = 20 ∨ j = 21 ∨ j = 22 ∨ j = 23 ∨ j = 24 ∨ j = 25 ∨ j = 26 by omega) with rfl | rfl | rfl | rfl | rfl | rfl | rfl | rfl | rfl | rfl | rfl | rfl | rfl | rfl | rfl | rfl | rfl | rfl | rfl | rfl | rfl | rfl | rfl | rfl | rfl | rfl | rfl <;> rfl) (Nat.le_of_ble_eq_true rfl) (Nat.le_of_ble_eq_true rfl) dlaw_8 (fun qb H hP hD hS => ?_)
  refine W.widen (k := 49) (n := 1464) (by omega) (by omega) ?_
  refine lv_dup hx hb dlaw_11 rfl ?_
  have hP : va_P (dC, dI) vwCl ((wd k u.1 (fun j => j) de_I0 (de_D0 u.2)) ++ ([(qb, .inr (8, [.int 0, .int 0, .int 0, .int 0, .int 0, .int 0, .int 0, .int 0, .int 0, .int 0, .double 0, .double 0, .null, .null, .null, .null, .null, .null, .null, .null, .null, .null, .null, .null, .null, .null, .null]))] ++ [])) H := hP
  have hD : va_D (fun q : Nat => s.heap.size ≤ q) ((wd k u.1 (fun j => j) de_I0 (de_D0 u.2)) ++ ([(qb, .inr (8, [.int 0, .int 0, .int 0, .int 0, .int 0, .int 0, .int 0, .int 0, .int 0, .int 0, .double 0, .double 0, .null, .null, .null, .null, .null, .null, .null, .null, .null, .null, .null, .null, .null, .null, .null]))] ++ [])) := hD
  refine sg_v (va_runI (As := []) (rest := [.ref qb]) ⟨hx, hb, hml, hown, hts⟩ (kMo_init l dC dI k _ qb) (cwI 0 hts (gw_I tw_642) rfl rfl rfl (hts _ tw_9) (hts _ tw_640) (hts _ tw_641) rfl (by decide +kernel) ⟨Nat.le_of_ble_eq_true rfl, Nat.le_of_ble_eq_true rfl⟩) ⟨ct_blind (ev := (fun _ => True)) (fun _ _ _ _ h => h), ct_now (A := (fun q : Nat => s.heap.size ≤ q)) (ev := (fun _ => True)) (fun _ _ _ => trivial) (sg_Pc hP) (hK.sub (tys' := de_ty k) [0, 1, 2, 3] rfl) (sg_Dc hD)⟩ rfl rfl hl.1 rfl (lv_room (Nat.le_of_ble_eq_true rfl)) dlaw_12 ⟨Nat.le_of_ble_eq_true rfl, Nat.le_of_ble_eq_true rfl⟩) hP hD hS hA (fun v H locs hwv hP2 hD2 hS2 => ?_)
  refine W.widen (k := 64) (n := 2912) (by omega) (by omega) ?_
  obtain ⟨ev, fv, gv⟩ := hwv
  subst ev
  have hP : va_P (dC, dI) vwCl (wd k u.1 (fun j => j) de_I0 (de_D0 u.2) ++ wm k v.1 mo_I0 v.2) H := by rw [List.append_nil] at hP2; exact hP2
  have hD : va_D (fun q : Nat => s.heap.size ≤ q) (wd k u.1 (fun j => j) de_I0 (de_D0 u.2) ++ wm k v.1 mo_I0 v.2) := by rw [List.append_nil] at hD2; exact hD2
  have hS := hS2
  refine lv_astore_n (lv' := [(2, .ref (v.1 0)), (1, .ref (u.1 0)), (0, .ref b)]) hx hb dlaw_15 rfl hl (by decide) rfl (fun ls hl => ?_)
  refine lv_iconst (v := nI 1) hx hb dlaw_16 (by decide +kernel) ?_
  refine rn_newa (atype := .long) (a0 := (1, .inr (.inl (fun _ => 0)))) (N' := 1) (kA := k 4) hx hb (hts _ tw_874) (ty := .long) rfl hK hP hD hS hA 4 rfl (fun _ h9 => h9) (fun _ => rfl) (by decide +kernel) (by decide +kernel) (by decide) (Nat.le_of_ble_eq_true rfl) (Nat.le_of_ble_eq_true rfl) dlaw_17 (fun ob H hP hD hS => ?_)
  refine W.widen (k := 65) (n := 2913) (by omega) (by omega) ?_
  refine lv_astore_n (lv' := [(3, .ref ob), (2, .ref (v.1 0)), (1, .ref (u.1 0)), (0, .ref b)]) hx hb dlaw_19 rfl hl (by decide) rfl (fun ls hl => ?_)
  refine lv_iconst (v := nI 1) hx hb dlaw_20 (by decide +kernel) ?_
  refine rn_newa (atype := .double) (a0 := (1, wd_d (fun _ => 0))) (N' := 1) (kA := k 1) hx hb (hts _ tw_67) (ty := .double) rfl hK hP hD hS hA 1 rfl (fun _ h9 => h9) (fun _ => rfl) (by decide +kernel) (by decide +kernel) (by decide) (Nat.le_of_ble_eq_true rfl) (Nat.le_of_ble_eq_true rfl) dlaw_21 (fun od H hP hD hS => ?_)
  refine W.widen (k := 66) (n := 2914) (by omega) (by omega) ?_
  refine lv_astore (lv' := [(4, .ref od), (3, .ref ob), (2, .ref (v.1 0)), (1, .ref (u.1 0)), (0, .ref b)]) hx hb dlaw_23 hl (by decide) rfl (fun ls hl => ?_)
  have hP := hP.sub (ws' := lw k u.1 (fun j => j) de_I0 (de_D0 u.2) v.1 mo_I0 v.2 ob (fun _ => 0) od (fun _ => 0)) [64, 0, 1, 2, 3, 4, 5, 6, 7, 8, 9, 10, 11, 12, 13, 14, 15, 16, 17, 18, 19, 20, 21, 22, 23, 24, 25, 26, 27, 28, 29, 30, 31, 32, 33, 34, 35, 36, 37, 38, 39, 40, 41, 42, 43, 44, 45, 46, 47, 65, 48, 49, 50, 51, 52, 53, 54, 55, 56, 57, 58, 59, 60, 61, 62, 63] rfl
  have hD := hD.sub (ws' := lw k u.1 (fun j => j) de_I0 (de_D0 u.2) v.1 mo_I0 v.2 ob (fun _ => 0) od (fun _ => 0)) [64, 0, 1, 2, 3, 4, 5, 6, 7, 8, 9, 10, 11, 12, 13, 14, 15, 16, 17, 18, 19, 20, 21, 22, 23, 24, 25, 26, 27, 28, 29, 30, 31, 32, 33, 34, 35, 36, 37, 38, 39, 40, 41, 42, 43, 44, 45, 46, 47, 65, 48, 49, 50, 51, 52, 53, 54, 55, 56, 57, 58, 59, 60, 61, 62, 63] (by decide) rfl
  have CX : la_cx p l s m c b L xs dC dI k := ⟨hx, hb, hml, hown, hts, hX, hbl, hK, hE, hln⟩
  have FX : la_fx u.2 v.2 := ⟨fu, fv⟩
  have RX := rx_new FX gv
  refine lv_iconst (v := nI 0) hx hb dlaw_25 (by decide +kernel) ?_
  refine lv_istore (lv' := [(5, .int (nI (4 * 0))), (4, .ref od), (3, .ref ob), (2, .ref (v.1 0)), (1, .ref (u.1 0)), (0, .ref b)]) hx hb dlaw_26 hl (by decide) rfl (fun ls hl => ?_)
  exact la_loop l hL C0 CX 600 0 (by omega) (by omega) _ _ _ _ _ _ _ _ _ _ RX hP hD hS hl
