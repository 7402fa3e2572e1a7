set_option maxHeartbeats 4000000 in
set_option maxRecDepth 100000 in
theorem kMo_number (l : Launch) (dC : Nat → ClassId) (dI : Nat → Nat → Nat) (k : Nat → ClassId) (b : Nat → Nat) (I : Nat → Nat → Int32) (D : Nat → Nat → UInt64) (sz : Nat) (t N : Nat) (oc : Nat → Nat) (hN : 1 ≤ N) (hN4 : N ≤ 4) (ht : t + N ≤ 400) (ho : ∀ j, j < 400 → I 1 j = nI (oc j) ∧ oc j < 256) : Met l yMo_number wMo_number ({ frames := 0, cells := 0, slots := 0, locals := 0 }) (va_Pc [.ref (b 0), .int (nI t), .int (nI N)] (ct_pre (dC, dI) (mo_ty k) (fun _ => True) (wm k b I D) sz)) (va_Ql (fun r (_ : Unit) => r = lN (nu oc t N)) (fun u t => ct_at (dC, dI) (va_A (wm k b I D) sz) ((fun _ => wm k b I D) u) t) (va_A (wm k b I D) sz)) 0 0 (va_A (wm k b I D) sz) := by
  refine Met.ofW (cc := cMo_number) (maxL := 6) (ret := (some .long)) (by decide) rfl ?_
  intro p e s m args below meth c s₁ B hml hv
  obtain ⟨rfl, hsz, hP, hK, hD0, hE⟩ := hv
  have hx := B.exec
  have hb := B.bytes
  have hr := B.returns
  have hts : ∀ w ∈ W0, w.before [.ref (b 0), .int (nI t), .int (nI N)].toArray s = true := fun w h => atoms_spec (ws := wMo_number) B.pre w (List.mem_cons_of_mem _ h)
  have hown : s.vm.findClass RMo = some m.cls := findClass_of_methodNamed B.named
  have hlocks := B.notSynchronized
  subst hsz
  have hD := hD0.self (sz := s.heap.size)
  generalize hAe : va_A (wm k b I D) s.heap.size = A at hD ⊢
  have hA : ∀ q : Nat, s.heap.size ≤ q → A q := fun q h => by rw [← hAe]; exact Or.inr h
  have hS : va_S A s.heap s.heap [] := va_S.rf
  have hl := lv_entry ([.ref (b 0), .int (nI t), .int (nI N)]) (n := 6) (Nat.le_of_ble_eq_true rfl)
  rw [lg_entry_eq]
  generalize (lg_sl ([.ref (b 0), .int (nI t), .int (nI N)]) ++ List.replicate (6 - (lg_sl ([.ref (b 0), .int (nI t), .int (nI N)])).length) Slot.unset).toArray = ls at hl ⊢
  have hl : lv_has ls 6 [(0, .ref (b 0)), (1, .int (nI t)), (2, .int (nI N))] := hl
  refine lp_q (fun Q9 hQ9 => ?_)
  refine lv_lconst (v := lN 0) hx hb dMo_number_0 (by decide +kernel) ?_
  refine lv_lstore_n (lv' := [(3, .long (lN 0)), (0, .ref (b 0)), (1, .int (nI t)), (2, .int (nI N))]) hx hb dMo_number_1 rfl hl (by decide) rfl (fun ls hl => ?_)
  refine lv_iload_n hx hb dMo_number_2 rfl (lv_at hl 3 rfl) ?_
  refine lv_iconst (v := nI 1) hx hb dMo_number_3 (by decide +kernel) ?_
  refine lv_isub hx hb dMo_number_4 ?_
  refine rw_i (y := kd N) (kd_sub (by omega)) ?_
  refine lv_istore (lv' := [(5, .int (kd N)), (3, .long (lN 0)), (0, .ref (b 0)), (1, .int (nI t)), (2, .int (nI N))]) hx hb dMo_number_5 hl (by decide) rfl (fun ls hl => ?_)
  have e0 : nu oc (t + N) (N - N) = 0 := by rw [Nat.sub_self]; rfl
  have hl : lv_has ls 6 [(5, .int (kd N)), (3, .long (lN (nu oc (t + N) (N - N)))), (0, .ref (b 0)), (1, .int (nI t)), (2, .int (nI N))] := by rw [e0]; exact hl
  have L7 : ∀ (n7 : Nat) (r : Nat), r < n7 → r ≤ N → ∀ (H : Heap) (locs : List Loc), va_P (dC, dI) vwCl (wm k b I D) H → va_D A (wm k b I D) → va_S A s.heap H locs → ∀ ls : Array Slot, lv_has ls 6 [(0, .ref (b 0)), (1, .int (nI t)), (2, .int (nI N)), (3, .long (lN (nu oc (t + r) (N - r)))), (5, .int (kd r))] → W p l e (headSpec wMo_number ({ frames := 0, cells := 0, slots := 0, locals := 0 })).room s m [.ref (b 0), .int (nI t), .int (nI N)].toArray below meth c H locs 0 0 Q9 (F0 m 7 ls []) := by
    intro n7
    induction n7 with
    | zero => intro r hm; exact absurd hm (Nat.not_lt_zero _)
    | succ n7 ih7 =>
      intro r hm7 hr9 H locs hP hD hS ls hl
      refine lv_iload hx hb dMo_number_7 (lv_at hl 4 rfl) ?_
      refine lv_if_lt (tgt := 34) hx hb dMo_number_9 (by decide) (fun c9 => ?_) (fun c9 => ?_)
      · obtain rfl : r = 0 := kd_neg c9 (by omega)
        refine lv_lload_n hx hb dMo_number_34 rfl (lv_at hl 3 rfl) ?_
        rw [hQ9]
        exact ct_rl hx hb hr hlocks () rfl hP hD hS (Nat.le_refl _) (Nat.le_refl _) dMo_number_35
      · obtain ⟨q, rfl⟩ := kd_pos c9
        rw [kd_s] at hl
        refine lv_lload_n hx hb dMo_number_12 rfl (lv_at hl 3 rfl) ?_
        refine lv_bipush (v := nI 8) hx hb dMo_number_13 (by decide +kernel) ?_
        refine lv_lshl (v := lN (nu oc (t + (q + 1)) (N - (q + 1)) * 256)) hx hb dMo_number_15 (nu_shl _) ?_
        refine lv_aload_n hx hb dMo_number_16 rfl (lv_at hl 0 rfl) ?_
        refine va_get (D := (dC, dI)) (ci := 8) (v := .ref (b 1)) (C := RMo) (T := TMo) (N := 27) hx hb hts inMo hown hK hP 0 rfl rfl 12 (by decide) (hts _ tw_659) (fun _ h9 => h9) rfl dMo_number_17 ?_
        refine lv_iload_n hx hb dMo_number_20 rfl (lv_at hl 1 rfl) ?_
        refine lv_iload hx hb dMo_number_21 (lv_at hl 4 rfl) ?_
        refine lv_iadd hx hb dMo_number_23 ?_
        refine rw_i (y := nI (t + q)) (nI_add _ _) ?_
        refine rw_ald_i hx hb hK hP 1 0 rfl rfl (by omega) (by decide) dMo_number_24 ?_
        refine rw_i (y := nI (oc (t + q))) ((ho _ (by omega)).1) ?_
        have b1 := (ho (t + q) (by omega)).2
        have b2 := nu_lt3 oc (d := N - (q + 1)) (a := t + (q + 1)) (by omega) (fun j hj => (ho j (by omega)).2)
        refine lv_i2l (v := lN (oc (t + q))) hx hb dMo_number_25 (nI_l (by omega)) ?_
        refine lv_lor hx hb dMo_number_26 ?_
        refine rw_l (y := lN (nu oc (t + q) (N - q))) ((g_or (k := 8) rfl b1 (by omega)).trans (by rw [nu_step oc t (by omega)])) ?_
        refine lv_lstore_n (lv' := [(3, .long (lN (nu oc (t + q) (N - q)))), (0, .ref (b 0)), (1, .int (nI t)), (2, .int (nI N)), (5, .int (nI q))]) hx hb dMo_number_27 rfl hl (by decide) rfl (fun ls hl => ?_)
        refine lv_iinc (v := kd q) (lv' := [(5, .int (kd q)), (3, .long (lN (nu oc (t + q) (N - q)))), (0, .ref (b 0)), (1, .int (nI t)), (2, .int (nI N))]) hx hb dMo_number_28 hl (k := 4) rfl (rfl) (by decide) rfl (fun ls hl => ?_)
        refine lv_goto (tgt := 7) hx hb dMo_number_31 (by decide) ?_
        exact ih7 q (by omega) (by omega) _ _ hP hD hS ls (lv_sub hl [2, 3, 4, 1, 0] rfl)
  exact L7 _ N (Nat.lt_succ_self _) (Nat.le_refl N) _ _ hP hD hS ls (lv_sub hl [2, 3, 4, 1, 0] rfl)
