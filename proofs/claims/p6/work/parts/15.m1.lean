set_option maxHeartbeats 4000000 in
set_option maxRecDepth 100000 in
theorem kMo_in (l : Launch) (dC : Nat → ClassId) (dI : Nat → Nat → Nat) (k : Nat → ClassId) (b : Nat → Nat) (I : Nat → Nat → Int32) (D : Nat → Nat → UInt64) (sz : Nat) (v x y : Int64) : Met l yMo_in wMo_in ({ frames := 0, cells := 0, slots := 0, locals := 0 }) (va_Pc [.long v, .long x, .long y] (ct_pre (dC, dI) (mo_ty k) (fun _ => True) (wm k b I D) sz)) (va_Qi (fun r (_ : Unit) => r = (if x ≤ v ∧ v ≤ y then 1 else 0)) (fun u t => ct_at (dC, dI) (va_A (wm k b I D) sz) ((fun _ => wm k b I D) u) t) (va_A (wm k b I D) sz)) 0 0 (va_A (wm k b I D) sz) := by
  refine Met.ofW (cc := cMo_in) (maxL := 6) (ret := (some .boolean)) (by decide) rfl ?_
  intro p e s m args below meth c s₁ B hml hv
  obtain ⟨rfl, hsz, hP, hK, hD0, hE⟩ := hv
  have hx := B.exec
  have hb := B.bytes
  have hr := B.returns
  have hts : ∀ w ∈ W0, w.before [.long v, .long x, .long y].toArray s = true := fun w h => atoms_spec (ws := wMo_in) B.pre w (List.mem_cons_of_mem _ h)
  have hown : s.vm.findClass RMo = some m.cls := findClass_of_methodNamed B.named
  have hlocks := B.notSynchronized
  subst hsz
  have hD := hD0.self (sz := s.heap.size)
  generalize hAe : va_A (wm k b I D) s.heap.size = A at hD ⊢
  have hA : ∀ q : Nat, s.heap.size ≤ q → A q := fun q h => by rw [← hAe]; exact Or.inr h
  have hS : va_S A s.heap s.heap [] := va_S.rf
  have hl := lv_entry ([.long v, .long x, .long y]) (n := 6) (Nat.le_of_ble_eq_true rfl)
  rw [lg_entry_eq]
  generalize (lg_sl ([.long v, .long x, .long y]) ++ List.replicate (6 - (lg_sl ([.long v, .long x, .long y])).length) Slot.unset).toArray = ls at hl ⊢
  have hl : lv_has ls 6 [(0, .long v), (2, .long x), (4, .long y)] := hl
  refine lv_lload_n hx hb dMo_in_0 rfl (lv_at hl 0 rfl) ?_
  refine lv_lload_n hx hb dMo_in_1 rfl (lv_at hl 1 rfl) ?_
  refine W.lcmp hx hb dMo_in_2 ?_
  refine lv_if_lt (tgt := 17) hx hb dMo_in_3 (by decide) (fun c3 => ?_) (fun c3 => ?_)
  · refine lv_iconst (v := nI 0) hx hb dMo_in_17 (by decide +kernel) ?_
    exact ct_rz hx hb hr hlocks () (in_post_0 (by first | (exact ⟨in_lt c3, in_gt c10⟩) | (exact fun q => in_nlt c3 q.1) | (exact fun q => in_ngt c10 q.2))) hP hD hS (Nat.le_refl _) (Nat.le_refl _) dMo_in_18
  · refine lv_lload_n hx hb dMo_in_6 rfl (lv_at hl 0 rfl) ?_
    refine lv_lload hx hb dMo_in_7 (lv_at hl 2 rfl) ?_
    refine W.lcmp hx hb dMo_in_9 ?_
    refine lv_if_gt (tgt := 17) hx hb dMo_in_10 (by decide) (fun c10 => ?_) (fun c10 => ?_)
    · refine lv_iconst (v := nI 0) hx hb dMo_in_17 (by decide +kernel) ?_
      exact ct_rz hx hb hr hlocks () (in_post_0 (by first | (exact ⟨in_lt c3, in_gt c10⟩) | (exact fun q => in_nlt c3 q.1) | (exact fun q => in_ngt c10 q.2))) hP hD hS (Nat.le_refl _) (Nat.le_refl _) dMo_in_18
    · refine lv_iconst (v := nI 1) hx hb dMo_in_13 (by decide +kernel) ?_
      refine lv_goto (tgt := 18) hx hb dMo_in_14 (by decide) ?_
      exact ct_rz hx hb hr hlocks () (in_post_1 (by first | (exact ⟨in_lt c3, in_gt c10⟩) | (exact fun q => in_nlt c3 q.1) | (exact fun q => in_ngt c10 q.2))) hP hD hS (Nat.le_refl _) (Nat.le_refl _) dMo_in_18
set_option maxHeartbeats 4000000 in
set_option maxRecDepth 100000 in
theorem kMo_fails (l : Launch) (dC : Nat → ClassId) (dI : Nat → Nat → Nat) (k : Nat → ClassId) (b : Nat → Nat) (I : Nat → Nat → Int32) (D : Nat → Nat → UInt64) (sz : Nat) (z n : Int32) : Met l yMo_fails wMo_fails ({ frames := 0, cells := 0, slots := 0, locals := 0 }) (va_Pc [.ref (b 0), .int z, .int n] (ct_pre (dC, dI) (mo_ty k) (fun _ => True) (wm k b I D) sz)) (va_Qi (fun r (u : Nat → Nat → Int32) => u = (if z ≠ 0 ∧ I 0 0 = 0 then ui I 0 0 n else I) ∧ r = (if u 0 0 ≠ 0 then 1 else 0)) (fun u t => ct_at (dC, dI) (va_A (wm k b I D) sz) ((fun u => wm k b u D) u) t) (va_A (wm k b I D) sz)) 0 0 (va_A (wm k b I D) sz) := by
  refine Met.ofW (cc := cMo_fails) (maxL := 3) (ret := (some .boolean)) (by decide) rfl ?_
  intro p e s m args below meth c s₁ B hml hv
  obtain ⟨rfl, hsz, hP, hK, hD0, hE⟩ := hv
  have hx := B.exec
  have hb := B.bytes
  have hr := B.returns
  have hts : ∀ w ∈ W0, w.before [.ref (b 0), .int z, .int n].toArray s = true := fun w h => atoms_spec (ws := wMo_fails) B.pre w (List.mem_cons_of_mem _ h)
  have hown : s.vm.findClass RMo = some m.cls := findClass_of_methodNamed B.named
  have hlocks := B.notSynchronized
  subst hsz
  have hD := hD0.self (sz := s.heap.size)
  generalize hAe : va_A (wm k b I D) s.heap.size = A at hD ⊢
  have hA : ∀ q : Nat, s.heap.size ≤ q → A q := fun q h => by rw [← hAe]; exact Or.inr h
  have hS : va_S A s.heap s.heap [] := va_S.rf
  have hl := lv_entry ([.ref (b 0), .int z, .int n]) (n := 3) (Nat.le_of_ble_eq_true rfl)
  rw [lg_entry_eq]
  generalize (lg_sl ([.ref (b 0), .int z, .int n]) ++ List.replicate (3 - (lg_sl ([.ref (b 0), .int z, .int n])).length) Slot.unset).toArray = ls at hl ⊢
  have hl : lv_has ls 3 [(0, .ref (b 0)), (1, .int z), (2, .int n)] := hl
  refine lv_iload_n hx hb dMo_fails_0 rfl (lv_at hl 1 rfl) ?_
  refine lv_if_eq (tgt := 16) hx hb dMo_fails_1 (by decide) (fun c1 => ?_) (fun c1 => ?_)
  · refine lv_aload_n hx hb dMo_fails_16 rfl (lv_at hl 0 rfl) ?_
    refine va_get (D := (dC, dI)) (ci := 8) (v := .int (I 0 0)) (C := RMo) (T := TMo) (N := 27) hx hb hts inMo hown hK hP 0 rfl rfl 0 (by decide) (hts _ tw_647) (fun _ h9 => h9) rfl dMo_fails_17 ?_
    refine lv_if_eq (tgt := 27) hx hb dMo_fails_20 (by decide) (fun c20 => ?_) (fun c20 => ?_)
    · refine lv_iconst (v := nI 0) hx hb dMo_fails_27 (by decide +kernel) ?_
      exact ct_rz hx hb hr hlocks I (⟨(by rw [if_neg (by first | (exact fun q => q.1 c1) | (exact fun q => c8 q.2))]), (by first | (rw [if_pos c20]; rfl) | (rw [if_neg (fun q => q c20)]; rfl))⟩) hP hD hS (Nat.le_refl _) (Nat.le_refl _) dMo_fails_28
    · refine lv_iconst (v := nI 1) hx hb dMo_fails_23 (by decide +kernel) ?_
      refine lv_goto (tgt := 28) hx hb dMo_fails_24 (by decide) ?_
      exact ct_rz hx hb hr hlocks I (⟨(by rw [if_neg (by first | (exact fun q => q.1 c1) | (exact fun q => c8 q.2))]), (by first | (rw [if_pos c20]; rfl) | (rw [if_neg (fun q => q c20)]; rfl))⟩) hP hD hS (Nat.le_refl _) (Nat.le_refl _) dMo_fails_28
  · refine lv_aload_n hx hb dMo_fails_4 rfl (lv_at hl 0 rfl) ?_
    refine va_get (D := (dC, dI)) (ci := 8) (v := .int (I 0 0)) (C := RMo) (T := TMo) (N := 27) hx hb hts inMo hown hK hP 0 rfl rfl 0 (by decide) (hts _ tw_647) (fun _ h9 => h9) rfl dMo_fails_5 ?_
    refine lv_if_ne (tgt := 16) hx hb dMo_fails_8 (by decide) (fun c8 => ?_) (fun c8 => ?_)
    · refine lv_aload_n hx hb dMo_fails_16 rfl (lv_at hl 0 rfl) ?_
      refine va_get (D := (dC, dI)) (ci := 8) (v := .int (I 0 0)) (C := RMo) (T := TMo) (N := 27) hx hb hts inMo hown hK hP 0 rfl rfl 0 (by decide) (hts _ tw_647) (fun _ h9 => h9) rfl dMo_fails_17 ?_
      refine lv_if_eq (tgt := 27) hx hb dMo_fails_20 (by decide) (fun c20 => ?_) (fun c20 => ?_)
      · refine lv_iconst (v := nI 0) hx hb dMo_fails_27 (by decide +kernel) ?_
        exact ct_rz hx hb hr hlocks I (⟨(by rw [if_neg (by first | (exact fun q => q.1 c1) | (exact fun q => c8 q.2))]), (by first | (rw [if_pos c20]; rfl) | (rw [if_neg (fun q => q c20)]; rfl))⟩) hP hD hS (Nat.le_refl _) (Nat.le_refl _) dMo_fails_28
      · refine lv_iconst (v := nI 1) hx hb dMo_fails_23 (by decide +kernel) ?_
        refine lv_goto (tgt := 28) hx hb dMo_fails_24 (by decide) ?_
        exact ct_rz hx hb hr hlocks I (⟨(by rw [if_neg (by first | (exact fun q => q.1 c1) | (exact fun q => c8 q.2))]), (by first | (rw [if_pos c20]; rfl) | (rw [if_neg (fun q => q c20)]; rfl))⟩) hP hD hS (Nat.le_refl _) (Nat.le_refl _) dMo_fails_28
    · refine lv_aload_n hx hb dMo_fails_11 rfl (lv_at hl 0 rfl) ?_
      refine lv_iload_n hx hb dMo_fails_12 rfl (lv_at hl 2 rfl) ?_
      refine va_put (D := (dC, dI)) (ci := 8) (fs := mo_f b I D) (v := .int n) (ty := .int) (C := RMo) (T := TMo) (N := 27) hx hb hts inMo tyMo tyMo_ok nmMo hown hK hP hD hS 0 rfl rfl 0 (by decide) (hts _ tw_647) (fun _ h9 => h9) rfl (by decide +kernel) rfl rfl (Nat.le_of_ble_eq_true rfl) dMo_fails_13 (fun H locs hP hD hS => ?_)
      rw [wm_p0] at hP hD
      obtain ⟨I1, eI1⟩ : ∃ z, z = ui I 0 0 n := ⟨_, rfl⟩
      rw [← eI1] at hP hD
      refine lv_aload_n hx hb dMo_fails_16 rfl (lv_at hl 0 rfl) ?_
      refine va_get (D := (dC, dI)) (ci := 8) (v := .int (I1 0 0)) (C := RMo) (T := TMo) (N := 27) hx hb hts inMo hown hK hP 0 rfl rfl 0 (by decide) (hts _ tw_647) (fun _ h9 => h9) rfl dMo_fails_17 ?_
      refine rw_i (y := n) (by rw [eI1, ui_s]) ?_
      refine lv_if_eq (tgt := 27) hx hb dMo_fails_20 (by decide) (fun c20 => ?_) (fun c20 => ?_)
      · refine lv_iconst (v := nI 0) hx hb dMo_fails_27 (by decide +kernel) ?_
        exact ct_rz hx hb hr hlocks I1 (⟨(by rw [if_pos ⟨c1, c8⟩]; exact eI1), (by rw [show I1 0 0 = n by rw [eI1, ui_s]]; first | (rw [if_pos c20]; rfl) | (rw [if_neg (fun q => q c20)]; rfl))⟩) hP hD hS (Nat.le_refl _) (Nat.le_refl _) dMo_fails_28
      · refine lv_iconst (v := nI 1) hx hb dMo_fails_23 (by decide +kernel) ?_
        refine lv_goto (tgt := 28) hx hb dMo_fails_24 (by decide) ?_
        exact ct_rz hx hb hr hlocks I1 (⟨(by rw [if_pos ⟨c1, c8⟩]; exact eI1), (by rw [show I1 0 0 = n by rw [eI1, ui_s]]; first | (rw [if_pos c20]; rfl) | (rw [if_neg (fun q => q c20)]; rfl))⟩) hP hD hS (Nat.le_refl _) (Nat.le_refl _) dMo_fails_28
set_option maxHeartbeats 4000000 in
set_option maxRecDepth 100000 in
theorem kMo_frames (l : Launch) (dC : Nat → ClassId) (dI : Nat → Nat → Nat) (k : Nat → ClassId) (b : Nat → Nat) (I : Nat → Nat → Int32) (D : Nat → Nat → UInt64) (sz : Nat) (n : Nat) (hn : n ≤ 320) (h3 : I 0 3 = nI n) : Met l yMo_frames wMo_frames ({ frames := 0, cells := 0, slots := 0, locals := 0 }) (va_Pc [.ref (b 0)] (ct_pre (dC, dI) (mo_ty k) (fun _ => True) (wm k b I D) sz)) (va_Qi (fun r (_ : Unit) => r = nI (hd_nf n)) (fun u t => ct_at (dC, dI) (va_A (wm k b I D) sz) ((fun _ => wm k b I D) u) t) (va_A (wm k b I D) sz)) 0 0 (va_A (wm k b I D) sz) := by
  refine Met.ofW (cc := cMo_frames) (maxL := 1) (ret := (some .int)) (by decide) rfl ?_
  intro p e s m args below meth c s₁ B hml hv
  obtain ⟨rfl, hsz, hP, hK, hD0, hE⟩ := hv
  have hx := B.exec
  have hb := B.bytes
  have hr := B.returns
  have hts : ∀ w ∈ W0, w.before [.ref (b 0)].toArray s = true := fun w h => atoms_spec (ws := wMo_frames) B.pre w (List.mem_cons_of_mem _ h)
  have hown : s.vm.findClass RMo = some m.cls := findClass_of_methodNamed B.named
  have hlocks := B.notSynchronized
  subst hsz
  have hD := hD0.self (sz := s.heap.size)
  generalize hAe : va_A (wm k b I D) s.heap.size = A at hD ⊢
  have hA : ∀ q : Nat, s.heap.size ≤ q → A q := fun q h => by rw [← hAe]; exact Or.inr h
  have hS : va_S A s.heap s.heap [] := va_S.rf
  have hl := lv_entry ([.ref (b 0)]) (n := 1) (Nat.le_of_ble_eq_true rfl)
  rw [lg_entry_eq]
  generalize (lg_sl ([.ref (b 0)]) ++ List.replicate (1 - (lg_sl ([.ref (b 0)])).length) Slot.unset).toArray = ls at hl ⊢
  have hl : lv_has ls 1 [(0, .ref (b 0))] := hl
  refine lv_aload_n hx hb dMo_frames_0 rfl (lv_at hl 0 rfl) ?_
  refine va_get (D := (dC, dI)) (ci := 8) (v := .int (I 0 3)) (C := RMo) (T := TMo) (N := 27) hx hb hts inMo hown hK hP 0 rfl rfl 3 (by decide) (hts _ tw_650) (fun _ h9 => h9) rfl dMo_frames_1 ?_
  refine rw_i (y := nI n) h3 ?_
  refine lv_bipush (v := nI 32) hx hb dMo_frames_4 (by decide +kernel) ?_
  refine lv_icmp_ge (tgt := 13) hx hb dMo_frames_6 (by decide) (fun c6 => ?_) (fun c6 => ?_)
  · have c6 : 32 ≤ n := (nI_leI (a := 32) (b := n) (by omega) (by omega)).mp (show nI 32 ≤ nI n from c6)
    refine lv_aload_n hx hb dMo_frames_13 rfl (lv_at hl 0 rfl) ?_
    refine va_get (D := (dC, dI)) (ci := 8) (v := .int (I 0 3)) (C := RMo) (T := TMo) (N := 27) hx hb hts inMo hown hK hP 0 rfl rfl 3 (by decide) (hts _ tw_650) (fun _ h9 => h9) rfl dMo_frames_14 ?_
    refine rw_i (y := nI n) h3 ?_
    refine lv_bipush (v := nI 32) hx hb dMo_frames_17 (by decide +kernel) ?_
    refine lv_isub hx hb dMo_frames_19 ?_
    refine rw_i (y := nI (n - 32)) (pk_sub (by omega)) ?_
    refine lv_bipush (v := nI 16) hx hb dMo_frames_20 (by decide +kernel) ?_
    refine lv_idiv hx hb dMo_frames_22 (by decide +kernel) ?_
    refine rw_i (y := nI ((n - 32) / 16)) (pk_div (by omega) (by omega) (by omega)) ?_
    refine lv_iconst (v := nI 1) hx hb dMo_frames_23 (by decide +kernel) ?_
    refine lv_iadd hx hb dMo_frames_24 ?_
    refine rw_i (y := nI (((n - 32) / 16) + 1)) (nI_add _ _) ?_
    exact ct_ri hx hb hr hlocks () (by first | (unfold hd_nf; rw [if_pos (by omega)]) | (unfold hd_nf; rw [if_neg (by omega)])) hP hD hS (Nat.le_refl _) (Nat.le_refl _) dMo_frames_25
  · have c6 : ¬ 32 ≤ n := fun q9 => c6 (show nI 32 ≤ nI n from (nI_leI (a := 32) (b := n) (by omega) (by omega)).mpr q9)
    refine lv_iconst (v := nI 0) hx hb dMo_frames_9 (by decide +kernel) ?_
    refine lv_goto (tgt := 25) hx hb dMo_frames_10 (by decide) ?_
    exact ct_ri hx hb hr hlocks () (by first | (unfold hd_nf; rw [if_pos (by omega)]) | (unfold hd_nf; rw [if_neg (by omega)])) hP hD hS (Nat.le_refl _) (Nat.le_refl _) dMo_frames_25
set_option maxHeartbeats 4000000 in
set_option maxRecDepth 100000 in
theorem kMo_place (l : Launch) (dC : Nat → ClassId) (dI : Nat → Nat → Nat) (k : Nat → ClassId) (b : Nat → Nat) (I : Nat → Nat → Int32) (D : Nat → Nat → UInt64) (sz : Nat)  : Met l yMo_place wMo_place ({ frames := 0, cells := 0, slots := 0, locals := 0 }) (va_Pc [.ref (b 0)] (ct_pre (dC, dI) (mo_ty k) (fun _ => True) (wm k b I D) sz)) (va_Qi (fun r (u : Nat → Nat → Int32) => u = ui I 0 0 0 ∧ r = I 0 2) (fun u t => ct_at (dC, dI) (va_A (wm k b I D) sz) ((fun u => wm k b u D) u) t) (va_A (wm k b I D) sz)) 0 0 (va_A (wm k b I D) sz) := by
  refine Met.ofW (cc := cMo_place) (maxL := 1) (ret := (some .int)) (by decide) rfl ?_
  intro p e s m args below meth c s₁ B hml hv
  obtain ⟨rfl, hsz, hP, hK, hD0, hE⟩ := hv
  have hx := B.exec
  have hb := B.bytes
  have hr := B.returns
  have hts : ∀ w ∈ W0, w.before [.ref (b 0)].toArray s = true := fun w h => atoms_spec (ws := wMo_place) B.pre w (List.mem_cons_of_mem _ h)
  have hown : s.vm.findClass RMo = some m.cls := findClass_of_methodNamed B.named
  have hlocks := B.notSynchronized
  subst hsz
  have hD := hD0.self (sz := s.heap.size)
  generalize hAe : va_A (wm k b I D) s.heap.size = A at hD ⊢
  have hA : ∀ q : Nat, s.heap.size ≤ q → A q := fun q h => by rw [← hAe]; exact Or.inr h
  have hS : va_S A s.heap s.heap [] := va_S.rf
  have hl := lv_entry ([.ref (b 0)]) (n := 1) (Nat.le_of_ble_eq_true rfl)
  rw [lg_entry_eq]
  generalize (lg_sl ([.ref (b 0)]) ++ List.replicate (1 - (lg_sl ([.ref (b 0)])).length) Slot.unset).toArray = ls at hl ⊢
  have hl : lv_has ls 1 [(0, .ref (b 0))] := hl
  refine lv_aload_n hx hb dMo_place_0 rfl (lv_at hl 0 rfl) ?_
  refine lv_iconst (v := nI 0) hx hb dMo_place_1 (by decide +kernel) ?_
  refine va_put (D := (dC, dI)) (ci := 8) (fs := mo_f b I D) (v := .int (nI 0)) (ty := .int) (C := RMo) (T := TMo) (N := 27) hx hb hts inMo tyMo tyMo_ok nmMo hown hK hP hD hS 0 rfl rfl 0 (by decide) (hts _ tw_647) (fun _ h9 => h9) rfl (by decide +kernel) rfl rfl (Nat.le_of_ble_eq_true rfl) dMo_place_2 (fun H locs hP hD hS => ?_)
  rw [wm_p0] at hP hD
  obtain ⟨I1, eI1⟩ : ∃ z, z = ui I 0 0 (nI 0) := ⟨_, rfl⟩
  rw [← eI1] at hP hD
  refine lv_aload_n hx hb dMo_place_5 rfl (lv_at hl 0 rfl) ?_
  refine va_get (D := (dC, dI)) (ci := 8) (v := .int (I1 0 2)) (C := RMo) (T := TMo) (N := 27) hx hb hts inMo hown hK hP 0 rfl rfl 2 (by decide) (hts _ tw_649) (fun _ h9 => h9) rfl dMo_place_6 ?_
  refine rw_i (y := I 0 2) (by rw [eI1, ui_n _ _ _ (by decide)]) ?_
  exact ct_ri hx hb hr hlocks I1 (⟨eI1, rfl⟩) hP hD hS (Nat.le_refl _) (Nat.le_refl _) dMo_place_9
set_option maxHeartbeats 4000000 in
set_option maxRecDepth 100000 in
theorem kMo_clear (l : Launch) (dC : Nat → ClassId) (dI : Nat → Nat → Nat) (k : Nat → ClassId) (b : Nat → Nat) (I : Nat → Nat → Int32) (D : Nat → Nat → UInt64) (sz : Nat)  : Met l yMo_clear wMo_clear ({ frames := 0, cells := 0, slots := 0, locals := 0 }) (va_Pc [.ref (b 0)] (ct_pre (dC, dI) (mo_ty k) (fun _ => True) (wm k b I D) sz)) (va_Qi (fun r (u : Nat → Nat → Int32) => u = ui (ui (ui I 0 0 0) 0 3 0) 0 6 0 ∧ r = I 0 3) (fun u t => ct_at (dC, dI) (va_A (wm k b I D) sz) ((fun u => wm k b u D) u) t) (va_A (wm k b I D) sz)) 0 0 (va_A (wm k b I D) sz) := by
  refine Met.ofW (cc := cMo_clear) (maxL := 2) (ret := (some .int)) (by decide) rfl ?_
  intro p e s m args below meth c s₁ B hml hv
  obtain ⟨rfl, hsz, hP, hK, hD0, hE⟩ := hv
  have hx := B.exec
  have hb := B.bytes
  have hr := B.returns
  have hts : ∀ w ∈ W0, w.before [.ref (b 0)].toArray s = true := fun w h => atoms_spec (ws := wMo_clear) B.pre w (List.mem_cons_of_mem _ h)
  have hown : s.vm.findClass RMo = some m.cls := findClass_of_methodNamed B.named
  have hlocks := B.notSynchronized
  subst hsz
  have hD := hD0.self (sz := s.heap.size)
  generalize hAe : va_A (wm k b I D) s.heap.size = A at hD ⊢
  have hA : ∀ q : Nat, s.heap.size ≤ q → A q := fun q h => by rw [← hAe]; exact Or.inr h
  have hS : va_S A s.heap s.heap [] := va_S.rf
  have hl := lv_entry ([.ref (b 0)]) (n := 2) (Nat.le_of_ble_eq_true rfl)
  rw [lg_entry_eq]
  generalize (lg_sl ([.ref (b 0)]) ++ List.replicate (2 - (lg_sl ([.ref (b 0)])).length) Slot.unset).toArray = ls at hl ⊢
  have hl : lv_has ls 2 [(0, .ref (b 0))] := hl
  refine lv_aload_n hx hb dMo_clear_0 rfl (lv_at hl 0 rfl) ?_
  refine lv_iconst (v := nI 0) hx hb dMo_clear_1 (by decide +kernel) ?_
  refine va_put (D := (dC, dI)) (ci := 8) (fs := mo_f b I D) (v := .int (nI 0)) (ty := .int) (C := RMo) (T := TMo) (N := 27) hx hb hts inMo tyMo tyMo_ok nmMo hown hK hP hD hS 0 rfl rfl 0 (by decide) (hts _ tw_647) (fun _ h9 => h9) rfl (by decide +kernel) rfl rfl (Nat.le_of_ble_eq_true rfl) dMo_clear_2 (fun H locs hP hD hS => ?_)
  rw [wm_p0] at hP hD
  obtain ⟨I1, eI1⟩ : ∃ z, z = ui I 0 0 (nI 0) := ⟨_, rfl⟩
  rw [← eI1] at hP hD
  refine lv_aload_n hx hb dMo_clear_5 rfl (lv_at hl 0 rfl) ?_
  refine va_get (D := (dC, dI)) (ci := 8) (v := .int (I1 0 3)) (C := RMo) (T := TMo) (N := 27) hx hb hts inMo hown hK hP 0 rfl rfl 3 (by decide) (hts _ tw_650) (fun _ h9 => h9) rfl dMo_clear_6 ?_
  refine rw_i (y := I 0 3) (by rw [eI1, ui_n _ _ _ (by decide)]) ?_
  refine lv_istore_n (lv' := [(1, .int (I 0 3)), (0, .ref (b 0))]) hx hb dMo_clear_9 rfl hl (by decide) rfl (fun ls hl => ?_)
  refine lv_aload_n hx hb dMo_clear_10 rfl (lv_at hl 1 rfl) ?_
  refine lv_iconst (v := nI 0) hx hb dMo_clear_11 (by decide +kernel) ?_
  refine va_put (D := (dC, dI)) (ci := 8) (fs := mo_f b I1 D) (v := .int (nI 0)) (ty := .int) (C := RMo) (T := TMo) (N := 27) hx hb hts inMo tyMo tyMo_ok nmMo hown hK hP hD hS 0 rfl rfl 3 (by decide) (hts _ tw_650) (fun _ h9 => h9) rfl (by decide +kernel) rfl rfl (Nat.le_of_ble_eq_true rfl) dMo_clear_12 (fun H locs hP hD hS => ?_)
  rw [wm_p3] at hP hD
  obtain ⟨I2, eI2⟩ : ∃ z, z = ui I1 0 3 (nI 0) := ⟨_, rfl⟩
  rw [← eI2] at hP hD
  refine lv_aload_n hx hb dMo_clear_15 rfl (lv_at hl 1 rfl) ?_
  refine lv_iconst (v := nI 0) hx hb dMo_clear_16 (by decide +kernel) ?_
  refine va_put (D := (dC, dI)) (ci := 8) (fs := mo_f b I2 D) (v := .int (nI 0)) (ty := .int) (C := RMo) (T := TMo) (N := 27) hx hb hts inMo tyMo tyMo_ok nmMo hown hK hP hD hS 0 rfl rfl 6 (by decide) (hts _ tw_653) (fun _ h9 => h9) rfl (by decide +kernel) rfl rfl (Nat.le_of_ble_eq_true rfl) dMo_clear_17 (fun H locs hP hD hS => ?_)
  rw [wm_p6] at hP hD
  obtain ⟨I3, eI3⟩ : ∃ z, z = ui I2 0 6 (nI 0) := ⟨_, rfl⟩
  rw [← eI3] at hP hD
  refine lv_iload_n hx hb dMo_clear_20 rfl (lv_at hl 0 rfl) ?_
  exact ct_ri hx hb hr hlocks I3 (⟨by rw [eI3, eI2, eI1]; rfl, rfl⟩) hP hD hS (Nat.le_refl _) (Nat.le_refl _) dMo_clear_21
set_option maxHeartbeats 4000000 in
set_option maxRecDepth 100000 in
theorem kMo_spells (l : Launch) (dC : Nat → ClassId) (dI : Nat → Nat → Nat) (k : Nat → ClassId) (b : Nat → Nat) (I : Nat → Nat → Int32) (D : Nat → Nat → UInt64) (sz : Nat) (t x1 x2 x3 x4 : Nat) (oc : Nat → Nat) (ht : t + 3 < 400) (ho : ∀ j, j < 400 → I 1 j = nI (oc j) ∧ oc j < 256) (g1 : x1 < 256) (g2 : x2 < 256) (g3 : x3 < 256) (g4 : x4 < 256) : Met l yMo_spells wMo_spells ({ frames := 0, cells := 0, slots := 0, locals := 0 }) (va_Pc [.ref (b 0), .int (nI t), .int (nI x1), .int (nI x2), .int (nI x3), .int (nI x4)] (ct_pre (dC, dI) (mo_ty k) (fun _ => True) (wm k b I D) sz)) (va_Qi (fun r (_ : Unit) => r = (if fi_sp oc t x1 x2 x3 x4 then 1 else 0)) (fun u t => ct_at (dC, dI) (va_A (wm k b I D) sz) ((fun _ => wm k b I D) u) t) (va_A (wm k b I D) sz)) 0 0 (va_A (wm k b I D) sz) := by
  refine Met.ofW (cc := cMo_spells) (maxL := 6) (ret := (some .boolean)) (by decide) rfl ?_
  intro p e s m args below meth c s₁ B hml hv
  obtain ⟨rfl, hsz, hP, hK, hD0, hE⟩ := hv
  have hx := B.exec
  have hb := B.bytes
  have hr := B.returns
  have hts : ∀ w ∈ W0, w.before [.ref (b 0), .int (nI t), .int (nI x1), .int (nI x2), .int (nI x3), .int (nI x4)].toArray s = true := fun w h => atoms_spec (ws := wMo_spells) B.pre w (List.mem_cons_of_mem _ h)
  have hown : s.vm.findClass RMo = some m.cls := findClass_of_methodNamed B.named
  have hlocks := B.notSynchronized
  subst hsz
  have hD := hD0.self (sz := s.heap.size)
  generalize hAe : va_A (wm k b I D) s.heap.size = A at hD ⊢
  have hA : ∀ q : Nat, s.heap.size ≤ q → A q := fun q h => by rw [← hAe]; exact Or.inr h
  have hS : va_S A s.heap s.heap [] := va_S.rf
  have hl := lv_entry ([.ref (b 0), .int (nI t), .int (nI x1), .int (nI x2), .int (nI x3), .int (nI x4)]) (n := 6) (Nat.le_of_ble_eq_true rfl)
  rw [lg_entry_eq]
  generalize (lg_sl ([.ref (b 0), .int (nI t), .int (nI x1), .int (nI x2), .int (nI x3), .int (nI x4)]) ++ List.replicate (6 - (lg_sl ([.ref (b 0), .int (nI t), .int (nI x1), .int (nI x2), .int (nI x3), .int (nI x4)])).length) Slot.unset).toArray = ls at hl ⊢
  have hl : lv_has ls 6 [(0, .ref (b 0)), (1, .int (nI t)), (2, .int (nI x1)), (3, .int (nI x2)), (4, .int (nI x3)), (5, .int (nI x4))] := hl
  refine lv_aload_n hx hb dMo_spells_0 rfl (lv_at hl 0 rfl) ?_
  refine va_get (D := (dC, dI)) (ci := 8) (v := .ref (b 1)) (C := RMo) (T := TMo) (N := 27) hx hb hts inMo hown hK hP 0 rfl rfl 12 (by decide) (hts _ tw_659) (fun _ h9 => h9) rfl dMo_spells_1 ?_
  refine lv_iload_n hx hb dMo_spells_4 rfl (lv_at hl 1 rfl) ?_
  refine rw_ald_i hx hb hK hP 1 0 rfl rfl (by omega) (by decide) dMo_spells_5 ?_
  have q6 := (ho (t) (by omega)).2
  refine rw_i (y := nI (oc t)) ((ho _ (by omega)).1) ?_
  refine lv_iload_n hx hb dMo_spells_6 rfl (lv_at hl 2 rfl) ?_
  refine lv_icmp_ne (tgt := 52) hx hb dMo_spells_7 (by decide) (fun c7 => ?_) (fun c7 => ?_)
  · have c7 : ¬ (oc t) = x1 := fun q9 => c7 (show nI (oc t) = nI x1 from (nI_eq (a := (oc t)) (b := x1) (by omega) (by omega)).mpr q9)
    refine lv_iconst (v := nI 0) hx hb dMo_spells_52 (by decide +kernel) ?_
    exact ct_rz hx hb hr hlocks () (sp_post_0 (by first | exact ⟨c7, c19, c32, c45⟩ | exact fun q => c7 q.1 | exact fun q => c19 q.2.1 | exact fun q => c32 q.2.2.1 | exact fun q => c45 q.2.2.2)) hP hD hS (Nat.le_refl _) (Nat.le_refl _) dMo_spells_53
  · have c7 : (oc t) = x1 := (nI_eq (a := (oc t)) (b := x1) (by omega) (by omega)).mp (show nI (oc t) = nI x1 from c7)
    refine lv_aload_n hx hb dMo_spells_10 rfl (lv_at hl 0 rfl) ?_
    refine va_get (D := (dC, dI)) (ci := 8) (v := .ref (b 1)) (C := RMo) (T := TMo) (N := 27) hx hb hts inMo hown hK hP 0 rfl rfl 12 (by decide) (hts _ tw_659) (fun _ h9 => h9) rfl dMo_spells_11 ?_
    refine lv_iload_n hx hb dMo_spells_14 rfl (lv_at hl 1 rfl) ?_
    refine lv_iconst (v := nI 1) hx hb dMo_spells_15 (by decide +kernel) ?_
    refine lv_iadd hx hb dMo_spells_16 ?_
    refine rw_i (y := nI (t + 1)) (nI_add _ _) ?_
    refine rw_ald_i hx hb hK hP 1 0 rfl rfl (by omega) (by decide) dMo_spells_17 ?_
    have q18 := (ho ((t + 1)) (by omega)).2
    refine rw_i (y := nI (oc (t + 1))) ((ho _ (by omega)).1) ?_
    refine lv_iload_n hx hb dMo_spells_18 rfl (lv_at hl 3 rfl) ?_
    refine lv_icmp_ne (tgt := 52) hx hb dMo_spells_19 (by decide) (fun c19 => ?_) (fun c19 => ?_)
    · have c19 : ¬ (oc (t + 1)) = x2 := fun q9 => c19 (show nI (oc (t + 1)) = nI x2 from (nI_eq (a := (oc (t + 1))) (b := x2) (by omega) (by omega)).mpr q9)
      refine lv_iconst (v := nI 0) hx hb dMo_spells_52 (by decide +kernel) ?_
      exact ct_rz hx hb hr hlocks () (sp_post_0 (by first | exact ⟨c7, c19, c32, c45⟩ | exact fun q => c7 q.1 | exact fun q => c19 q.2.1 | exact fun q => c32 q.2.2.1 | exact fun q => c45 q.2.2.2)) hP hD hS (Nat.le_refl _) (Nat.le_refl _) dMo_spells_53
    · have c19 : (oc (t + 1)) = x2 := (nI_eq (a := (oc (t + 1))) (b := x2) (by omega) (by omega)).mp (show nI (oc (t + 1)) = nI x2 from c19)
      refine lv_aload_n hx hb dMo_spells_22 rfl (lv_at hl 0 rfl) ?_
      refine va_get (D := (dC, dI)) (ci := 8) (v := .ref (b 1)) (C := RMo) (T := TMo) (N := 27) hx hb hts inMo hown hK hP 0 rfl rfl 12 (by decide) (hts _ tw_659) (fun _ h9 => h9) rfl dMo_spells_23 ?_
      refine lv_iload_n hx hb dMo_spells_26 rfl (lv_at hl 1 rfl) ?_
      refine lv_iconst (v := nI 2) hx hb dMo_spells_27 (by decide +kernel) ?_
      refine lv_iadd hx hb dMo_spells_28 ?_
      refine rw_i (y := nI (t + 2)) (nI_add _ _) ?_
      refine rw_ald_i hx hb hK hP 1 0 rfl rfl (by omega) (by decide) dMo_spells_29 ?_
      have q30 := (ho ((t + 2)) (by omega)).2
      refine rw_i (y := nI (oc (t + 2))) ((ho _ (by omega)).1) ?_
      refine lv_iload hx hb dMo_spells_30 (lv_at hl 4 rfl) ?_
      refine lv_icmp_ne (tgt := 52) hx hb dMo_spells_32 (by decide) (fun c32 => ?_) (fun c32 => ?_)
      · have c32 : ¬ (oc (t + 2)) = x3 := fun q9 => c32 (show nI (oc (t + 2)) = nI x3 from (nI_eq (a := (oc (t + 2))) (b := x3) (by omega) (by omega)).mpr q9)
        refine lv_iconst (v := nI 0) hx hb dMo_spells_52 (by decide +kernel) ?_
        exact ct_rz hx hb hr hlocks () (sp_post_0 (by first | exact ⟨c7, c19, c32, c45⟩ | exact fun q => c7 q.1 | exact fun q => c19 q.2.1 | exact fun q => c32 q.2.2.1 | exact fun q => c45 q.2.2.2)) hP hD hS (Nat.le_refl _) (Nat.le_refl _) dMo_spells_53
      · have c32 : (oc (t + 2)) = x3 := (nI_eq (a := (oc (t + 2))) (b := x3) (by omega) (by omega)).mp (show nI (oc (t + 2)) = nI x3 from c32)
        refine lv_aload_n hx hb dMo_spells_35 rfl (lv_at hl 0 rfl) ?_
        refine va_get (D := (dC, dI)) (ci := 8) (v := .ref (b 1)) (C := RMo) (T := TMo) (N := 27) hx hb hts inMo hown hK hP 0 rfl rfl 12 (by decide) (hts _ tw_659) (fun _ h9 => h9) rfl dMo_spells_36 ?_
        refine lv_iload_n hx hb dMo_spells_39 rfl (lv_at hl 1 rfl) ?_
        refine lv_iconst (v := nI 3) hx hb dMo_spells_40 (by decide +kernel) ?_
        refine lv_iadd hx hb dMo_spells_41 ?_
        refine rw_i (y := nI (t + 3)) (nI_add _ _) ?_
        refine rw_ald_i hx hb hK hP 1 0 rfl rfl (by omega) (by decide) dMo_spells_42 ?_
        have q43 := (ho ((t + 3)) (by omega)).2
        refine rw_i (y := nI (oc (t + 3))) ((ho _ (by omega)).1) ?_
        refine lv_iload hx hb dMo_spells_43 (lv_at hl 5 rfl) ?_
        refine lv_icmp_ne (tgt := 52) hx hb dMo_spells_45 (by decide) (fun c45 => ?_) (fun c45 => ?_)
        · have c45 : ¬ (oc (t + 3)) = x4 := fun q9 => c45 (show nI (oc (t + 3)) = nI x4 from (nI_eq (a := (oc (t + 3))) (b := x4) (by omega) (by omega)).mpr q9)
          refine lv_iconst (v := nI 0) hx hb dMo_spells_52 (by decide +kernel) ?_
          exact ct_rz hx hb hr hlocks () (sp_post_0 (by first | exact ⟨c7, c19, c32, c45⟩ | exact fun q => c7 q.1 | exact fun q => c19 q.2.1 | exact fun q => c32 q.2.2.1 | exact fun q => c45 q.2.2.2)) hP hD hS (Nat.le_refl _) (Nat.le_refl _) dMo_spells_53
        · have c45 : (oc (t + 3)) = x4 := (nI_eq (a := (oc (t + 3))) (b := x4) (by omega) (by omega)).mp (show nI (oc (t + 3)) = nI x4 from c45)
          refine lv_iconst (v := nI 1) hx hb dMo_spells_48 (by decide +kernel) ?_
          refine lv_goto (tgt := 53) hx hb dMo_spells_49 (by decide) ?_
          exact ct_rz hx hb hr hlocks () (sp_post_1 (by first | exact ⟨c7, c19, c32, c45⟩ | exact fun q => c7 q.1 | exact fun q => c19 q.2.1 | exact fun q => c32 q.2.2.1 | exact fun q => c45 q.2.2.2)) hP hD hS (Nat.le_refl _) (Nat.le_refl _) dMo_spells_53
